set_option maxHeartbeats 4000000 in
set_option maxRecDepth 100000 in
theorem c_X10_fault (E : qE) (ad : Nat → Nat) (l : Launch) (S A : qA2) (b : qB) : MI E ad l yX10_fault wsX10_fault { frames := 0, cells := 0, slots := 0, locals := 0 } [.ref (ad 0)] S A b (fun r S' A' b' => (S = S' ∧ A = A' ∧ b = b') ∧ r = S 1 3) := by
  refine MI.of (cc := cX10_fault) (maxL := 1) (ret := some .int) RX10 rfl (by decide) rfl ?_
  intro pg e s m below meth cd C hM
  have hx := C.1
  have hb := C.2.1
  have hts := C.2.2.2.2.1
  have hA : ∀ q, s.heap.size ≤ q → qAr ad s.heap.size q := fun _ h => Or.inr h
  have hi7 : ∀ w ∈ u_ws RX7 TX7 6, w ∈ wsX10_fault := by decide +kernel
  have hi10 : ∀ w ∈ u_ws RX10 TX10 11, w ∈ wsX10_fault := by decide +kernel
  have hL0 := hts (.fieldLink RX10 10 "CrowFences" "text" "LCrowFences$Text;") (by decide +kernel)
  have hL1 := hts (.fieldLink RX10 116 "CrowFences$Text" "faultAt" "I") (by decide +kernel)
  have hl := lv_entry ([.ref (ad 0)]) (n := 1) (Nat.le_of_ble_eq_true rfl)
  rw [lg_entry_eq]
  generalize (lg_sl ([.ref (ad 0)]) ++ List.replicate (1 - (lg_sl ([.ref (ad 0)])).length) Slot.unset).toArray = ls at hl ⊢
  have hl : lv_has ls 1 [(0, .ref (ad 0))] := hl
  refine lv_aload_n hx hb dX10_fault_0 rfl (lv_at hl 0 rfl) ?_
  refine q_get (o := 0) (ci := 10) (k := 0) (T := TX10) (v := .ref (ad 1)) C hM (qmem_10 E ad S A b (show qk 0 = 10 from by decide +kernel)) (by decide) rfl hi10 (by decide) hL0 rfl rfl dX10_fault_1 ?_
  refine q_get (o := 1) (ci := 7) (k := 3) (T := TX7) (v := .int (S 1 3)) C hM (qmem_7 E ad S A b (show qk 1 = 7 from by decide +kernel)) (by decide) rfl hi7 (by decide) hL1 rfl rfl dX10_fault_4 ?_
  exact q_iret C hM dX10_fault_7 (by exact ⟨⟨rfl, rfl, rfl⟩, rfl⟩)

set_option maxHeartbeats 4000000 in
set_option maxRecDepth 100000 in
theorem c_X10_snow (E : qE) (ad : Nat → Nat) (l : Launch) (S A : qA2) (b : qB) (p : Nat) (hp : qpl p) (hbp : b.1 = p) (a1 : Int32) (nC : Nat) (hC : S p 0 = nI nC) (hCb : nC ≤ 12) : MI E ad l yX10_snow wsX10_snow { frames := 2, cells := 0, slots := 0, locals := 43 } [.ref (ad 0), .int a1] S A b (fun r S' A' b' => (S = S' ∧ A = A' ∧ b = b') ∧ r = (qix a1 nC).elim (-1000000001) (fun k => A 4 k)) := by
  obtain ⟨⟨kp, kp1, kp2, kp3, kp4, kp5, kp6⟩, ⟨lp1, lp2, lp3, lp4, lp5, lp6⟩, bp, bp7⟩ := qpl_all hp
  refine MI.of (cc := cX10_snow) (maxL := 2) (ret := some .int) RX10 rfl (by decide) rfl ?_
  intro pg e s m below meth cd C hM
  have hx := C.1
  have hb := C.2.1
  have hts := C.2.2.2.2.1
  have hA : ∀ q, s.heap.size ≤ q → qAr ad s.heap.size q := fun _ h => Or.inr h
  have hi9 : ∀ w ∈ u_ws RX9 TX9 8, w ∈ wsX10_snow := by decide +kernel
  have hi10 : ∀ w ∈ u_ws RX10 TX10 11, w ∈ wsX10_snow := by decide +kernel
  have hL0 := hts (.fieldLink RX10 19 "CrowFences" "now" "LCrowFences$Winter;") (by decide +kernel)
  have hL1 := hts (.fieldLink RX10 156 "CrowFences$Winter" "snow" "[I") (by decide +kernel)
  have hL2 := hts (.constant RX10 160 (-1000000001)) (by decide +kernel)
  have hl := lv_entry ([.ref (ad 0), .int a1]) (n := 2) (Nat.le_of_ble_eq_true rfl)
  rw [lg_entry_eq]
  generalize (lg_sl ([.ref (ad 0), .int a1]) ++ List.replicate (2 - (lg_sl ([.ref (ad 0), .int a1])).length) Slot.unset).toArray = ls at hl ⊢
  have hl : lv_has ls 2 [(0, .ref (ad 0)), (1, .int a1)] := hl
  refine lv_aload_n hx hb dX10_snow_0 rfl (lv_at hl 0 rfl) ?_
  refine lv_iload_n hx hb dX10_snow_1 rfl (lv_at hl 1 rfl) ?_
  refine q_callVI (n := 1) (o := 0) (As := [.int a1]) (rest := []) C hM hA (c_X10_isCell E ad l S A b p hp hbp a1 nC hC (by omega)) (qmem_10 E ad S A b (show qk 0 = 10 from by decide +kernel)) (by decide) rfl gX10_snow_X10_isCell rfl rfl rfl (by decide +kernel) ⟨Nat.le_of_ble_eq_true rfl, Nat.le_of_ble_eq_true rfl⟩ rfl hl.1 rfl (Nat.le_of_ble_eq_true rfl) ⟨Nat.zero_le _, Nat.zero_le _⟩ dX10_snow_2 (fun r_1 S_2 A_3 b_4 H locs qr_1 hM => ?_)
  obtain ⟨⟨e1, e2, e3⟩, hDr_1⟩ := qr_1
  subst e1; subst e2; subst e3
  rcases hDr_1 with ⟨er_1, ka1, hka1, eka1⟩ | ⟨er_1, hnoa1⟩
  · skip
    subst er_1
    subst eka1
    refine lv_if_eq (tgt := 20) hx hb dX10_snow_5 (by decide) (fun c_5 => ?_) (fun c_5 => ?_)
    · skip
      have c_5 : 1 = 0 := (nI_eq (a := 1) (b := 0) (by omega) (by omega)).mp c_5
      exact absurd c_5 (by decide)
    · skip
      have c_5 : ¬ (1 = 0) := fun z => c_5 ((nI_eq (a := 1) (b := 0) (by omega) (by omega)).mpr z)
      refine lv_aload_n hx hb dX10_snow_8 rfl (lv_at hl 0 rfl) ?_
      refine q_get (o := 0) (ci := 10) (k := 1) (T := TX10) (v := .ref (ad 3)) C hM (qmem_10 E ad S A b (show qk 0 = 10 from by decide +kernel)) (by decide) rfl hi10 (by decide) hL0 rfl rfl dX10_snow_9 ?_
      refine q_get (o := 3) (ci := 9) (k := 0) (T := TX9) (v := .ref (ad 4)) C hM (qmem_9 E ad S A b (show qk 3 = 9 from by decide +kernel)) (by decide) rfl hi9 (by decide) hL1 rfl rfl dX10_snow_12 ?_
      refine lv_iload_n hx hb dX10_snow_15 rfl (lv_at hl 1 rfl) ?_
      refine q_iald (v := A 4 ka1) C hM (show qk 4 = 12 from by decide +kernel) (by rw [(show ql 4 = 12 from by decide +kernel)]; exact vp_nI (by omega) (by omega)) (by rw [nIc (by omega)]) dX10_snow_16 ?_
      refine lv_goto (tgt := 22) hx hb dX10_snow_17 (by decide) ?_
      exact q_iret C hM dX10_snow_22 (by exact ⟨⟨rfl, rfl, rfl⟩, by rw [qix_in hka1 (by omega)] <;> rfl⟩)
  · skip
    subst er_1
    refine lv_if_eq (tgt := 20) hx hb dX10_snow_5 (by decide) (fun c_5 => ?_) (fun c_5 => ?_)
    · skip
      have c_5 : 0 = 0 := (nI_eq (a := 0) (b := 0) (by omega) (by omega)).mp c_5
      refine lv_ldc (v := (-1000000001)) hx hb C.2.2.2.1 hL2 dX10_snow_20 ?_
      exact q_iret C hM dX10_snow_22 (by exact ⟨⟨rfl, rfl, rfl⟩, by rw [qix_out (by omega) hnoa1] <;> rfl⟩)
    · skip
      have c_5 : ¬ (0 = 0) := fun z => c_5 ((nI_eq (a := 0) (b := 0) (by omega) (by omega)).mpr z)
      exact absurd rfl c_5

set_option maxHeartbeats 4000000 in
set_option maxRecDepth 100000 in
theorem c_X10_post (E : qE) (ad : Nat → Nat) (l : Launch) (S A : qA2) (b : qB) (p : Nat) (hp : qpl p) (hbp : b.1 = p) (a1 a2 : Int32) (nP : Nat) (hPo : S p 4 = nI nP) (hPb : nP ≤ 6) : MI E ad l yX10_post wsX10_post { frames := 2, cells := 0, slots := 0, locals := 43 } [.ref (ad 0), .int a1, .int a2] S A b (fun r S' A' b' => (S = S' ∧ A = A' ∧ b = b') ∧ r = (qix a1 nP).elim (-1000000001) (fun k => if a2 = 0 then A 5 k else if a2 = 1 then A (p + 2) k else if a2 = 2 then A 6 k else if a2 = 3 then qtb (S 3 5) (nI k) else (-1000000002))) := by
  obtain ⟨⟨kp, kp1, kp2, kp3, kp4, kp5, kp6⟩, ⟨lp1, lp2, lp3, lp4, lp5, lp6⟩, bp, bp7⟩ := qpl_all hp
  refine MI.of (cc := cX10_post) (maxL := 3) (ret := some .int) RX10 rfl (by decide) rfl ?_
  intro pg e s m below meth cd C hM
  have hx := C.1
  have hb := C.2.1
  have hts := C.2.2.2.2.1
  have hA : ∀ q, s.heap.size ≤ q → qAr ad s.heap.size q := fun _ h => Or.inr h
  have hi5 : ∀ w ∈ u_ws RX5 TX5 13, w ∈ wsX10_post := by decide +kernel
  have hi9 : ∀ w ∈ u_ws RX9 TX9 8, w ∈ wsX10_post := by decide +kernel
  have hi10 : ∀ w ∈ u_ws RX10 TX10 11, w ∈ wsX10_post := by decide +kernel
  have hL0 := hts (.fieldLink RX10 19 "CrowFences" "now" "LCrowFences$Winter;") (by decide +kernel)
  have hL1 := hts (.fieldLink RX10 164 "CrowFences$Winter" "cellOf" "[I") (by decide +kernel)
  have hL2 := hts (.fieldLink RX10 71 "CrowFences" "plan" "LCrowFences$Plan;") (by decide +kernel)
  have hL3 := hts (.fieldLink RX10 167 "CrowFences$Plan" "view" "[I") (by decide +kernel)
  have hL4 := hts (.fieldLink RX10 170 "CrowFences$Winter" "crowOn" "[I") (by decide +kernel)
  have hL5 := hts (.fieldLink RX10 141 "CrowFences$Winter" "standing" "I") (by decide +kernel)
  have hL6 := hts (.constant RX10 86 (-1000000002)) (by decide +kernel)
  have hL7 := hts (.constant RX10 160 (-1000000001)) (by decide +kernel)
  have hl := lv_entry ([.ref (ad 0), .int a1, .int a2]) (n := 3) (Nat.le_of_ble_eq_true rfl)
  rw [lg_entry_eq]
  generalize (lg_sl ([.ref (ad 0), .int a1, .int a2]) ++ List.replicate (3 - (lg_sl ([.ref (ad 0), .int a1, .int a2])).length) Slot.unset).toArray = ls at hl ⊢
  have hl : lv_has ls 3 [(0, .ref (ad 0)), (1, .int a1), (2, .int a2)] := hl
  refine lv_aload_n hx hb dX10_post_0 rfl (lv_at hl 0 rfl) ?_
  refine lv_iload_n hx hb dX10_post_1 rfl (lv_at hl 1 rfl) ?_
  refine q_callVI (n := 1) (o := 0) (As := [.int a1]) (rest := []) C hM hA (c_X10_isPost E ad l S A b p hp hbp a1 nP hPo (by omega)) (qmem_10 E ad S A b (show qk 0 = 10 from by decide +kernel)) (by decide) rfl gX10_post_X10_isPost rfl rfl rfl (by decide +kernel) ⟨Nat.le_of_ble_eq_true rfl, Nat.le_of_ble_eq_true rfl⟩ rfl hl.1 rfl (Nat.le_of_ble_eq_true rfl) ⟨Nat.zero_le _, Nat.zero_le _⟩ dX10_post_2 (fun r_1 S_2 A_3 b_4 H locs qr_1 hM => ?_)
  obtain ⟨⟨e1, e2, e3⟩, hDr_1⟩ := qr_1
  subst e1; subst e2; subst e3
  rcases hDr_1 with ⟨er_1, ka1, hka1, eka1⟩ | ⟨er_1, hnoa1⟩
  · skip
    subst er_1
    subst eka1
    refine lv_if_ne (tgt := 11) hx hb dX10_post_5 (by decide) (fun c_5 => ?_) (fun c_5 => ?_)
    · skip
      have c_5 : ¬ (1 = 0) := fun z => c_5 ((nI_eq (a := 1) (b := 0) (by omega) (by omega)).mpr z)
      refine lv_iload_n hx hb dX10_post_11 rfl (lv_at hl 2 rfl) ?_
      by_cases c_12 : a2 = 0
      · have hz : (a2 : Int32).toInt = 0 := by rw [c_12]; rfl
        refine lv_tableIn (off := 32) (tgt := 44) hx hb dX10_post_12 (by rw [hz]; decide) (by rw [hz]; decide) (by rw [hz]; rfl) (by decide) ?_
        refine lv_aload_n hx hb dX10_post_44 rfl (lv_at hl 0 rfl) ?_
        refine q_get (o := 0) (ci := 10) (k := 1) (T := TX10) (v := .ref (ad 3)) C hM (qmem_10 E ad S A b (show qk 0 = 10 from by decide +kernel)) (by decide) rfl hi10 (by decide) hL0 rfl rfl dX10_post_45 ?_
        refine q_get (o := 3) (ci := 9) (k := 1) (T := TX9) (v := .ref (ad 5)) C hM (qmem_9 E ad S A b (show qk 3 = 9 from by decide +kernel)) (by decide) rfl hi9 (by decide) hL1 rfl rfl dX10_post_48 ?_
        refine lv_iload_n hx hb dX10_post_51 rfl (lv_at hl 1 rfl) ?_
        refine q_iald (v := A 5 ka1) C hM (show qk 5 = 12 from by decide +kernel) (by rw [(show ql 5 = 6 from by decide +kernel)]; exact vp_nI (by omega) (by omega)) (by rw [nIc (by omega)]) dX10_post_52 ?_
        exact q_iret C hM dX10_post_53 (by exact ⟨⟨rfl, rfl, rfl⟩, by rw [qix_in hka1 (by omega)]; dsimp only [Option.elim]; rw [if_pos c_12]⟩)
      have n_12_0 := c_12
      by_cases c_12 : a2 = 1
      · have hz : (a2 : Int32).toInt = 1 := by rw [c_12]; rfl
        refine lv_tableIn (off := 42) (tgt := 54) hx hb dX10_post_12 (by rw [hz]; decide) (by rw [hz]; decide) (by rw [hz]; rfl) (by decide) ?_
        refine lv_aload_n hx hb dX10_post_54 rfl (lv_at hl 0 rfl) ?_
        refine q_get (o := 0) (ci := 10) (k := 9) (T := TX10) (v := .ref (ad p)) C hM (qmem_10 E ad S A b (show qk 0 = 10 from by decide +kernel)) (by decide) rfl hi10 (by decide) hL2 rfl (by rw [← hbp]; rfl) dX10_post_55 ?_
        refine q_get (o := p) (ci := 5) (k := 8) (T := TX5) (v := .ref (ad (p + 2))) C hM (qmem_5 E ad S A b kp) (by omega) rfl hi5 (by decide) hL3 rfl rfl dX10_post_58 ?_
        refine lv_iload_n hx hb dX10_post_61 rfl (lv_at hl 1 rfl) ?_
        refine q_iald (v := A (p + 2) ka1) C hM kp2 (by rw [lp2]; exact vp_nI (by omega) (by omega)) (by rw [nIc (by omega)]) dX10_post_62 ?_
        exact q_iret C hM dX10_post_63 (by exact ⟨⟨rfl, rfl, rfl⟩, by rw [qix_in hka1 (by omega)]; dsimp only [Option.elim]; rw [if_neg (by rw [c_12]; decide), if_pos c_12]⟩)
      have n_12_1 := c_12
      by_cases c_12 : a2 = 2
      · have hz : (a2 : Int32).toInt = 2 := by rw [c_12]; rfl
        refine lv_tableIn (off := 52) (tgt := 64) hx hb dX10_post_12 (by rw [hz]; decide) (by rw [hz]; decide) (by rw [hz]; rfl) (by decide) ?_
        refine lv_aload_n hx hb dX10_post_64 rfl (lv_at hl 0 rfl) ?_
        refine q_get (o := 0) (ci := 10) (k := 1) (T := TX10) (v := .ref (ad 3)) C hM (qmem_10 E ad S A b (show qk 0 = 10 from by decide +kernel)) (by decide) rfl hi10 (by decide) hL0 rfl rfl dX10_post_65 ?_
        refine q_get (o := 3) (ci := 9) (k := 2) (T := TX9) (v := .ref (ad 6)) C hM (qmem_9 E ad S A b (show qk 3 = 9 from by decide +kernel)) (by decide) rfl hi9 (by decide) hL4 rfl rfl dX10_post_68 ?_
        refine lv_iload_n hx hb dX10_post_71 rfl (lv_at hl 1 rfl) ?_
        refine q_iald (v := A 6 ka1) C hM (show qk 6 = 12 from by decide +kernel) (by rw [(show ql 6 = 6 from by decide +kernel)]; exact vp_nI (by omega) (by omega)) (by rw [nIc (by omega)]) dX10_post_72 ?_
        exact q_iret C hM dX10_post_73 (by exact ⟨⟨rfl, rfl, rfl⟩, by rw [qix_in hka1 (by omega)]; dsimp only [Option.elim]; rw [if_neg (by rw [c_12]; decide), if_neg (by rw [c_12]; decide), if_pos c_12]⟩)
      have n_12_2 := c_12
      by_cases c_12 : a2 = 3
      · have hz : (a2 : Int32).toInt = 3 := by rw [c_12]; rfl
        refine lv_tableIn (off := 62) (tgt := 74) hx hb dX10_post_12 (by rw [hz]; decide) (by rw [hz]; decide) (by rw [hz]; rfl) (by decide) ?_
        refine lv_aload_n hx hb dX10_post_74 rfl (lv_at hl 0 rfl) ?_
        refine q_get (o := 0) (ci := 10) (k := 1) (T := TX10) (v := .ref (ad 3)) C hM (qmem_10 E ad S A b (show qk 0 = 10 from by decide +kernel)) (by decide) rfl hi10 (by decide) hL0 rfl rfl dX10_post_75 ?_
        refine q_get (o := 3) (ci := 9) (k := 5) (T := TX9) (v := .int (S 3 5)) C hM (qmem_9 E ad S A b (show qk 3 = 9 from by decide +kernel)) (by decide) rfl hi9 (by decide) hL5 rfl rfl dX10_post_78 ?_
        refine lv_iload_n hx hb dX10_post_81 rfl (lv_at hl 1 rfl) ?_
        refine lv_ishr hx hb dX10_post_82 ?_
        refine lv_iconst (v := 1) hx hb dX10_post_83 (by decide) ?_
        refine lv_iand hx hb dX10_post_84 ?_
        exact q_iret C hM dX10_post_85 (by exact ⟨⟨rfl, rfl, rfl⟩, by rw [qix_in hka1 (by omega)]; dsimp only [Option.elim]; rw [if_neg (by rw [c_12]; decide), if_neg (by rw [c_12]; decide), if_neg (by rw [c_12]; decide), if_pos c_12]; rfl⟩)
      have n_12_3 := c_12
      have m_12_0 := q_neI (i := 0) (by decide) n_12_0
      have m_12_1 := q_neI (i := 1) (by decide) n_12_1
      have m_12_2 := q_neI (i := 2) (by decide) n_12_2
      have m_12_3 := q_neI (i := 3) (by decide) n_12_3
      refine lv_tableOut (tgt := 86) hx hb dX10_post_12 (by omega) (by decide) ?_
      refine lv_ldc (v := (-1000000002)) hx hb C.2.2.2.1 hL6 dX10_post_86 ?_
      exact q_iret C hM dX10_post_88 (by exact ⟨⟨rfl, rfl, rfl⟩, by rw [qix_in hka1 (by omega)]; dsimp only [Option.elim]; rw [if_neg n_12_0, if_neg n_12_1, if_neg n_12_2, if_neg n_12_3]⟩)
    · skip
      have c_5 : 1 = 0 := (nI_eq (a := 1) (b := 0) (by omega) (by omega)).mp c_5
      exact absurd c_5 (by decide)
  · skip
    subst er_1
    refine lv_if_ne (tgt := 11) hx hb dX10_post_5 (by decide) (fun c_5 => ?_) (fun c_5 => ?_)
    · skip
      have c_5 : ¬ (0 = 0) := fun z => c_5 ((nI_eq (a := 0) (b := 0) (by omega) (by omega)).mpr z)
      exact absurd rfl c_5
    · skip
      have c_5 : 0 = 0 := (nI_eq (a := 0) (b := 0) (by omega) (by omega)).mp c_5
      refine lv_ldc (v := (-1000000001)) hx hb C.2.2.2.1 hL7 dX10_post_8 ?_
      exact q_iret C hM dX10_post_10 (by exact ⟨⟨rfl, rfl, rfl⟩, by rw [qix_out (by omega) hnoa1] <;> rfl⟩)

set_option maxHeartbeats 4000000 in
set_option maxRecDepth 100000 in
theorem c_X10_crow (E : qE) (ad : Nat → Nat) (l : Launch) (S A : qA2) (b : qB) (p : Nat) (hp : qpl p) (hbp : b.1 = p) (a1 a2 : Int32) (nK : Nat) (hK : S p 5 = nI nK) (hKb : nK ≤ 5) : MI E ad l yX10_crow wsX10_crow { frames := 2, cells := 0, slots := 0, locals := 43 } [.ref (ad 0), .int a1, .int a2] S A b (fun r S' A' b' => (S = S' ∧ A = A' ∧ b = b') ∧ r = (qix a1 nK).elim (-1000000001) (fun k => if a2 = 0 then A 7 k else if a2 = 1 then A (p + 4) k else if a2 = 2 then qfind (A 6) (nI k) 0 6 else if a2 = 3 then A 8 k else (-1000000002))) := by
  obtain ⟨⟨kp, kp1, kp2, kp3, kp4, kp5, kp6⟩, ⟨lp1, lp2, lp3, lp4, lp5, lp6⟩, bp, bp7⟩ := qpl_all hp
  refine MI.of (cc := cX10_crow) (maxL := 3) (ret := some .int) RX10 rfl (by decide) rfl ?_
  intro pg e s m below meth cd C hM
  have hx := C.1
  have hb := C.2.1
  have hts := C.2.2.2.2.1
  have hA : ∀ q, s.heap.size ≤ q → qAr ad s.heap.size q := fun _ h => Or.inr h
  have hi5 : ∀ w ∈ u_ws RX5 TX5 13, w ∈ wsX10_crow := by decide +kernel
  have hi9 : ∀ w ∈ u_ws RX9 TX9 8, w ∈ wsX10_crow := by decide +kernel
  have hi10 : ∀ w ∈ u_ws RX10 TX10 11, w ∈ wsX10_crow := by decide +kernel
  have hL0 := hts (.fieldLink RX10 19 "CrowFences" "now" "LCrowFences$Winter;") (by decide +kernel)
  have hL1 := hts (.fieldLink RX10 176 "CrowFences$Winter" "bid" "[I") (by decide +kernel)
  have hL2 := hts (.fieldLink RX10 71 "CrowFences" "plan" "LCrowFences$Plan;") (by decide +kernel)
  have hL3 := hts (.fieldLink RX10 179 "CrowFences$Plan" "perView" "[I") (by decide +kernel)
  have hL4 := hts (.fieldLink RX10 186 "CrowFences$Winter" "paid" "[I") (by decide +kernel)
  have hL5 := hts (.constant RX10 86 (-1000000002)) (by decide +kernel)
  have hL6 := hts (.constant RX10 160 (-1000000001)) (by decide +kernel)
  have hl := lv_entry ([.ref (ad 0), .int a1, .int a2]) (n := 3) (Nat.le_of_ble_eq_true rfl)
  rw [lg_entry_eq]
  generalize (lg_sl ([.ref (ad 0), .int a1, .int a2]) ++ List.replicate (3 - (lg_sl ([.ref (ad 0), .int a1, .int a2])).length) Slot.unset).toArray = ls at hl ⊢
  have hl : lv_has ls 3 [(0, .ref (ad 0)), (1, .int a1), (2, .int a2)] := hl
  refine lv_aload_n hx hb dX10_crow_0 rfl (lv_at hl 0 rfl) ?_
  refine lv_iload_n hx hb dX10_crow_1 rfl (lv_at hl 1 rfl) ?_
  refine q_callVI (n := 1) (o := 0) (As := [.int a1]) (rest := []) C hM hA (c_X10_isCrow E ad l S A b p hp hbp a1 nK hK (by omega)) (qmem_10 E ad S A b (show qk 0 = 10 from by decide +kernel)) (by decide) rfl gX10_crow_X10_isCrow rfl rfl rfl (by decide +kernel) ⟨Nat.le_of_ble_eq_true rfl, Nat.le_of_ble_eq_true rfl⟩ rfl hl.1 rfl (Nat.le_of_ble_eq_true rfl) ⟨Nat.zero_le _, Nat.zero_le _⟩ dX10_crow_2 (fun r_1 S_2 A_3 b_4 H locs qr_1 hM => ?_)
  obtain ⟨⟨e1, e2, e3⟩, hDr_1⟩ := qr_1
  subst e1; subst e2; subst e3
  rcases hDr_1 with ⟨er_1, ka1, hka1, eka1⟩ | ⟨er_1, hnoa1⟩
  · skip
    subst er_1
    subst eka1
    refine lv_if_ne (tgt := 11) hx hb dX10_crow_5 (by decide) (fun c_5 => ?_) (fun c_5 => ?_)
    · skip
      have c_5 : ¬ (1 = 0) := fun z => c_5 ((nI_eq (a := 1) (b := 0) (by omega) (by omega)).mpr z)
      refine lv_iload_n hx hb dX10_crow_11 rfl (lv_at hl 2 rfl) ?_
      by_cases c_12 : a2 = 0
      · have hz : (a2 : Int32).toInt = 0 := by rw [c_12]; rfl
        refine lv_tableIn (off := 32) (tgt := 44) hx hb dX10_crow_12 (by rw [hz]; decide) (by rw [hz]; decide) (by rw [hz]; rfl) (by decide) ?_
        refine lv_aload_n hx hb dX10_crow_44 rfl (lv_at hl 0 rfl) ?_
        refine q_get (o := 0) (ci := 10) (k := 1) (T := TX10) (v := .ref (ad 3)) C hM (qmem_10 E ad S A b (show qk 0 = 10 from by decide +kernel)) (by decide) rfl hi10 (by decide) hL0 rfl rfl dX10_crow_45 ?_
        refine q_get (o := 3) (ci := 9) (k := 3) (T := TX9) (v := .ref (ad 7)) C hM (qmem_9 E ad S A b (show qk 3 = 9 from by decide +kernel)) (by decide) rfl hi9 (by decide) hL1 rfl rfl dX10_crow_48 ?_
        refine lv_iload_n hx hb dX10_crow_51 rfl (lv_at hl 1 rfl) ?_
        refine q_iald (v := A 7 ka1) C hM (show qk 7 = 12 from by decide +kernel) (by rw [(show ql 7 = 5 from by decide +kernel)]; exact vp_nI (by omega) (by omega)) (by rw [nIc (by omega)]) dX10_crow_52 ?_
        exact q_iret C hM dX10_crow_53 (by exact ⟨⟨rfl, rfl, rfl⟩, by rw [qix_in hka1 (by omega)]; dsimp only [Option.elim]; rw [if_pos c_12]⟩)
      have n_12_0 := c_12
      by_cases c_12 : a2 = 1
      · have hz : (a2 : Int32).toInt = 1 := by rw [c_12]; rfl
        refine lv_tableIn (off := 42) (tgt := 54) hx hb dX10_crow_12 (by rw [hz]; decide) (by rw [hz]; decide) (by rw [hz]; rfl) (by decide) ?_
        refine lv_aload_n hx hb dX10_crow_54 rfl (lv_at hl 0 rfl) ?_
        refine q_get (o := 0) (ci := 10) (k := 9) (T := TX10) (v := .ref (ad p)) C hM (qmem_10 E ad S A b (show qk 0 = 10 from by decide +kernel)) (by decide) rfl hi10 (by decide) hL2 rfl (by rw [← hbp]; rfl) dX10_crow_55 ?_
        refine q_get (o := p) (ci := 5) (k := 10) (T := TX5) (v := .ref (ad (p + 4))) C hM (qmem_5 E ad S A b kp) (by omega) rfl hi5 (by decide) hL3 rfl rfl dX10_crow_58 ?_
        refine lv_iload_n hx hb dX10_crow_61 rfl (lv_at hl 1 rfl) ?_
        refine q_iald (v := A (p + 4) ka1) C hM kp4 (by rw [lp4]; exact vp_nI (by omega) (by omega)) (by rw [nIc (by omega)]) dX10_crow_62 ?_
        exact q_iret C hM dX10_crow_63 (by exact ⟨⟨rfl, rfl, rfl⟩, by rw [qix_in hka1 (by omega)]; dsimp only [Option.elim]; rw [if_neg (by rw [c_12]; decide), if_pos c_12]⟩)
      have n_12_1 := c_12
      by_cases c_12 : a2 = 2
      · have hz : (a2 : Int32).toInt = 2 := by rw [c_12]; rfl
        refine lv_tableIn (off := 52) (tgt := 64) hx hb dX10_crow_12 (by rw [hz]; decide) (by rw [hz]; decide) (by rw [hz]; rfl) (by decide) ?_
        refine lv_aload_n hx hb dX10_crow_64 rfl (lv_at hl 0 rfl) ?_
        refine q_get (o := 0) (ci := 10) (k := 1) (T := TX10) (v := .ref (ad 3)) C hM (qmem_10 E ad S A b (show qk 0 = 10 from by decide +kernel)) (by decide) rfl hi10 (by decide) hL0 rfl rfl dX10_crow_65 ?_
        refine lv_iload_n hx hb dX10_crow_68 rfl (lv_at hl 1 rfl) ?_
        refine q_callVI (n := 1) (o := 3) (As := [.int (nI ka1)]) (rest := []) C hM hA (c_X9_postOf E ad l S A b 3 (show 3 ∈ qwL from by decide +kernel) (nI ka1)) (qmem_9 E ad S A b (show qk 3 = 9 from by decide +kernel)) (by decide) rfl gX10_crow_X9_postOf rfl rfl rfl (by decide +kernel) ⟨Nat.le_of_ble_eq_true rfl, Nat.le_of_ble_eq_true rfl⟩ rfl hl.1 rfl (Nat.le_of_ble_eq_true rfl) ⟨Nat.zero_le _, Nat.zero_le _⟩ dX10_crow_69 (fun r_5 S_6 A_7 b_8 H locs qr_5 hM => ?_)
        obtain ⟨⟨e1, e2, e3⟩, er_5⟩ := qr_5
        subst e1; subst e2; subst e3
        exact q_iret C hM dX10_crow_72 (by exact ⟨⟨rfl, rfl, rfl⟩, by rw [qix_in hka1 (by omega)]; dsimp only [Option.elim]; rw [if_neg (by rw [c_12]; decide), if_neg (by rw [c_12]; decide), if_pos c_12, er_5]⟩)
      have n_12_2 := c_12
      by_cases c_12 : a2 = 3
      · have hz : (a2 : Int32).toInt = 3 := by rw [c_12]; rfl
        refine lv_tableIn (off := 61) (tgt := 73) hx hb dX10_crow_12 (by rw [hz]; decide) (by rw [hz]; decide) (by rw [hz]; rfl) (by decide) ?_
        refine lv_aload_n hx hb dX10_crow_73 rfl (lv_at hl 0 rfl) ?_
        refine q_get (o := 0) (ci := 10) (k := 1) (T := TX10) (v := .ref (ad 3)) C hM (qmem_10 E ad S A b (show qk 0 = 10 from by decide +kernel)) (by decide) rfl hi10 (by decide) hL0 rfl rfl dX10_crow_74 ?_
        refine q_get (o := 3) (ci := 9) (k := 4) (T := TX9) (v := .ref (ad 8)) C hM (qmem_9 E ad S A b (show qk 3 = 9 from by decide +kernel)) (by decide) rfl hi9 (by decide) hL4 rfl rfl dX10_crow_77 ?_
        refine lv_iload_n hx hb dX10_crow_80 rfl (lv_at hl 1 rfl) ?_
        refine q_iald (v := A 8 ka1) C hM (show qk 8 = 12 from by decide +kernel) (by rw [(show ql 8 = 5 from by decide +kernel)]; exact vp_nI (by omega) (by omega)) (by rw [nIc (by omega)]) dX10_crow_81 ?_
        exact q_iret C hM dX10_crow_82 (by exact ⟨⟨rfl, rfl, rfl⟩, by rw [qix_in hka1 (by omega)]; dsimp only [Option.elim]; rw [if_neg (by rw [c_12]; decide), if_neg (by rw [c_12]; decide), if_neg (by rw [c_12]; decide), if_pos c_12]⟩)
      have n_12_3 := c_12
      have m_12_0 := q_neI (i := 0) (by decide) n_12_0
      have m_12_1 := q_neI (i := 1) (by decide) n_12_1
      have m_12_2 := q_neI (i := 2) (by decide) n_12_2
      have m_12_3 := q_neI (i := 3) (by decide) n_12_3
      refine lv_tableOut (tgt := 83) hx hb dX10_crow_12 (by omega) (by decide) ?_
      refine lv_ldc (v := (-1000000002)) hx hb C.2.2.2.1 hL5 dX10_crow_83 ?_
      exact q_iret C hM dX10_crow_85 (by exact ⟨⟨rfl, rfl, rfl⟩, by rw [qix_in hka1 (by omega)]; dsimp only [Option.elim]; rw [if_neg n_12_0, if_neg n_12_1, if_neg n_12_2, if_neg n_12_3]⟩)
    · skip
      have c_5 : 1 = 0 := (nI_eq (a := 1) (b := 0) (by omega) (by omega)).mp c_5
      exact absurd c_5 (by decide)
  · skip
    subst er_1
    refine lv_if_ne (tgt := 11) hx hb dX10_crow_5 (by decide) (fun c_5 => ?_) (fun c_5 => ?_)
    · skip
      have c_5 : ¬ (0 = 0) := fun z => c_5 ((nI_eq (a := 0) (b := 0) (by omega) (by omega)).mpr z)
      exact absurd rfl c_5
    · skip
      have c_5 : 0 = 0 := (nI_eq (a := 0) (b := 0) (by omega) (by omega)).mp c_5
      refine lv_ldc (v := (-1000000001)) hx hb C.2.2.2.1 hL6 dX10_crow_8 ?_
      exact q_iret C hM dX10_crow_10 (by exact ⟨⟨rfl, rfl, rfl⟩, by rw [qix_out (by omega) hnoa1] <;> rfl⟩)

set_option maxHeartbeats 4000000 in
set_option maxRecDepth 100000 in
theorem c_X10_told (E : qE) (ad : Nat → Nat) (l : Launch) (S A : qA2) (b : qB) (p : Nat) (hp : qpl p) (hbp : b.1 = p) (a1 : Int32) (nC : Nat) (hC : S p 0 = nI nC) (hCb : nC ≤ 12) : MI E ad l yX10_told wsX10_told { frames := 2, cells := 0, slots := 0, locals := 44 } [.ref (ad 0), .int a1] S A b (fun r S' A' b' => (S = S' ∧ A = A' ∧ b = b') ∧ r = (if a1 = 0 then S p 0 else if a1 = 1 then S p 4 else if a1 = 2 then S p 5 else if a1 = 3 then S p 6 else if a1 = 4 then S 1 1 else if a1 = 5 then S 3 6 else if a1 = 6 then S 3 7 else if a1 = 7 then S p 3 else if a1 = 8 then qopen (S p 3) (S p 2) (A 4) nC else if a1 = 9 then S 3 5 else if a1 = 10 then qlets (A 6) 6 else if a1 = 11 then qsum (A 4) 12 else if a1 = 12 then S 164 0 else if a1 = 13 then S 171 0 else if a1 = 14 then S 15 1 else (-1000000002))) := by
  obtain ⟨⟨kp, kp1, kp2, kp3, kp4, kp5, kp6⟩, ⟨lp1, lp2, lp3, lp4, lp5, lp6⟩, bp, bp7⟩ := qpl_all hp
  refine MI.of (cc := cX10_told) (maxL := 2) (ret := some .int) RX10 rfl (by decide) rfl ?_
  intro pg e s m below meth cd C hM
  have hx := C.1
  have hb := C.2.1
  have hts := C.2.2.2.2.1
  have hA : ∀ q, s.heap.size ≤ q → qAr ad s.heap.size q := fun _ h => Or.inr h
  have hi0 : ∀ w ∈ u_ws RX0 TX0 3, w ∈ wsX10_told := by decide +kernel
  have hi4 : ∀ w ∈ u_ws RX4 TX4 3, w ∈ wsX10_told := by decide +kernel
  have hi5 : ∀ w ∈ u_ws RX5 TX5 13, w ∈ wsX10_told := by decide +kernel
  have hi6 : ∀ w ∈ u_ws RX6 TX6 8, w ∈ wsX10_told := by decide +kernel
  have hi7 : ∀ w ∈ u_ws RX7 TX7 6, w ∈ wsX10_told := by decide +kernel
  have hi9 : ∀ w ∈ u_ws RX9 TX9 8, w ∈ wsX10_told := by decide +kernel
  have hi10 : ∀ w ∈ u_ws RX10 TX10 11, w ∈ wsX10_told := by decide +kernel
  have hL0 := hts (.fieldLink RX10 71 "CrowFences" "plan" "LCrowFences$Plan;") (by decide +kernel)
  have hL1 := hts (.fieldLink RX10 113 "CrowFences$Plan" "cells" "I") (by decide +kernel)
  have hL2 := hts (.fieldLink RX10 119 "CrowFences$Plan" "posts" "I") (by decide +kernel)
  have hL3 := hts (.fieldLink RX10 122 "CrowFences$Plan" "crows" "I") (by decide +kernel)
  have hL4 := hts (.fieldLink RX10 125 "CrowFences$Plan" "winds" "I") (by decide +kernel)
  have hL5 := hts (.fieldLink RX10 10 "CrowFences" "text" "LCrowFences$Text;") (by decide +kernel)
  have hL6 := hts (.fieldLink RX10 87 "CrowFences$Text" "length" "I") (by decide +kernel)
  have hL7 := hts (.fieldLink RX10 19 "CrowFences" "now" "LCrowFences$Winter;") (by decide +kernel)
  have hL8 := hts (.fieldLink RX10 128 "CrowFences$Winter" "hours" "I") (by decide +kernel)
  have hL9 := hts (.fieldLink RX10 131 "CrowFences$Winter" "spoons" "I") (by decide +kernel)
  have hL10 := hts (.fieldLink RX10 134 "CrowFences$Plan" "road" "I") (by decide +kernel)
  have hL11 := hts (.fieldLink RX10 141 "CrowFences$Winter" "standing" "I") (by decide +kernel)
  have hL12 := hts (.fieldLink RX10 57 "CrowFences" "sits" "LCrowFences$Sits;") (by decide +kernel)
  have hL13 := hts (.fieldLink RX10 109 "CrowFences$Sits" "count" "I") (by decide +kernel)
  have hL14 := hts (.fieldLink RX10 64 "CrowFences" "book" "LCrowFences$Book;") (by decide +kernel)
  have hL15 := hts (.fieldLink RX10 112 "CrowFences$Book" "count" "I") (by decide +kernel)
  have hL16 := hts (.fieldLink RX10 29 "CrowFences" "past" "LCrowFences$Past;") (by decide +kernel)
  have hL17 := hts (.fieldLink RX10 151 "CrowFences$Past" "count" "I") (by decide +kernel)
  have hL18 := hts (.constant RX10 86 (-1000000002)) (by decide +kernel)
  have hl := lv_entry ([.ref (ad 0), .int a1]) (n := 2) (Nat.le_of_ble_eq_true rfl)
  rw [lg_entry_eq]
  generalize (lg_sl ([.ref (ad 0), .int a1]) ++ List.replicate (2 - (lg_sl ([.ref (ad 0), .int a1])).length) Slot.unset).toArray = ls at hl ⊢
  have hl : lv_has ls 2 [(0, .ref (ad 0)), (1, .int a1)] := hl
  refine lv_iload_n hx hb dX10_told_0 rfl (lv_at hl 1 rfl) ?_
  by_cases c_1 : a1 = 0
  · have hz : (a1 : Int32).toInt = 0 := by rw [c_1]; rfl
    refine lv_tableIn (off := 75) (tgt := 76) hx hb dX10_told_1 (by rw [hz]; decide) (by rw [hz]; decide) (by rw [hz]; rfl) (by decide) ?_
    refine lv_aload_n hx hb dX10_told_76 rfl (lv_at hl 0 rfl) ?_
    refine q_get (o := 0) (ci := 10) (k := 9) (T := TX10) (v := .ref (ad p)) C hM (qmem_10 E ad S A b (show qk 0 = 10 from by decide +kernel)) (by decide) rfl hi10 (by decide) hL0 rfl (by rw [← hbp]; rfl) dX10_told_77 ?_
    refine q_get (o := p) (ci := 5) (k := 0) (T := TX5) (v := .int (S p 0)) C hM (qmem_5 E ad S A b kp) (by omega) rfl hi5 (by decide) hL1 rfl rfl dX10_told_80 ?_
    exact q_iret C hM dX10_told_83 (by exact ⟨⟨rfl, rfl, rfl⟩, by rw [if_pos c_1]⟩)
  have n_1_0 := c_1
  by_cases c_1 : a1 = 1
  · have hz : (a1 : Int32).toInt = 1 := by rw [c_1]; rfl
    refine lv_tableIn (off := 83) (tgt := 84) hx hb dX10_told_1 (by rw [hz]; decide) (by rw [hz]; decide) (by rw [hz]; rfl) (by decide) ?_
    refine lv_aload_n hx hb dX10_told_84 rfl (lv_at hl 0 rfl) ?_
    refine q_get (o := 0) (ci := 10) (k := 9) (T := TX10) (v := .ref (ad p)) C hM (qmem_10 E ad S A b (show qk 0 = 10 from by decide +kernel)) (by decide) rfl hi10 (by decide) hL0 rfl (by rw [← hbp]; rfl) dX10_told_85 ?_
    refine q_get (o := p) (ci := 5) (k := 4) (T := TX5) (v := .int (S p 4)) C hM (qmem_5 E ad S A b kp) (by omega) rfl hi5 (by decide) hL2 rfl rfl dX10_told_88 ?_
    exact q_iret C hM dX10_told_91 (by exact ⟨⟨rfl, rfl, rfl⟩, by rw [if_neg (by rw [c_1]; decide), if_pos c_1]⟩)
  have n_1_1 := c_1
  by_cases c_1 : a1 = 2
  · have hz : (a1 : Int32).toInt = 2 := by rw [c_1]; rfl
    refine lv_tableIn (off := 91) (tgt := 92) hx hb dX10_told_1 (by rw [hz]; decide) (by rw [hz]; decide) (by rw [hz]; rfl) (by decide) ?_
    refine lv_aload_n hx hb dX10_told_92 rfl (lv_at hl 0 rfl) ?_
    refine q_get (o := 0) (ci := 10) (k := 9) (T := TX10) (v := .ref (ad p)) C hM (qmem_10 E ad S A b (show qk 0 = 10 from by decide +kernel)) (by decide) rfl hi10 (by decide) hL0 rfl (by rw [← hbp]; rfl) dX10_told_93 ?_
    refine q_get (o := p) (ci := 5) (k := 5) (T := TX5) (v := .int (S p 5)) C hM (qmem_5 E ad S A b kp) (by omega) rfl hi5 (by decide) hL3 rfl rfl dX10_told_96 ?_
    exact q_iret C hM dX10_told_99 (by exact ⟨⟨rfl, rfl, rfl⟩, by rw [if_neg (by rw [c_1]; decide), if_neg (by rw [c_1]; decide), if_pos c_1]⟩)
  have n_1_2 := c_1
  by_cases c_1 : a1 = 3
  · have hz : (a1 : Int32).toInt = 3 := by rw [c_1]; rfl
    refine lv_tableIn (off := 99) (tgt := 100) hx hb dX10_told_1 (by rw [hz]; decide) (by rw [hz]; decide) (by rw [hz]; rfl) (by decide) ?_
    refine lv_aload_n hx hb dX10_told_100 rfl (lv_at hl 0 rfl) ?_
    refine q_get (o := 0) (ci := 10) (k := 9) (T := TX10) (v := .ref (ad p)) C hM (qmem_10 E ad S A b (show qk 0 = 10 from by decide +kernel)) (by decide) rfl hi10 (by decide) hL0 rfl (by rw [← hbp]; rfl) dX10_told_101 ?_
    refine q_get (o := p) (ci := 5) (k := 6) (T := TX5) (v := .int (S p 6)) C hM (qmem_5 E ad S A b kp) (by omega) rfl hi5 (by decide) hL4 rfl rfl dX10_told_104 ?_
    exact q_iret C hM dX10_told_107 (by exact ⟨⟨rfl, rfl, rfl⟩, by rw [if_neg (by rw [c_1]; decide), if_neg (by rw [c_1]; decide), if_neg (by rw [c_1]; decide), if_pos c_1]⟩)
  have n_1_3 := c_1
  by_cases c_1 : a1 = 4
  · have hz : (a1 : Int32).toInt = 4 := by rw [c_1]; rfl
    refine lv_tableIn (off := 107) (tgt := 108) hx hb dX10_told_1 (by rw [hz]; decide) (by rw [hz]; decide) (by rw [hz]; rfl) (by decide) ?_
    refine lv_aload_n hx hb dX10_told_108 rfl (lv_at hl 0 rfl) ?_
    refine q_get (o := 0) (ci := 10) (k := 0) (T := TX10) (v := .ref (ad 1)) C hM (qmem_10 E ad S A b (show qk 0 = 10 from by decide +kernel)) (by decide) rfl hi10 (by decide) hL5 rfl rfl dX10_told_109 ?_
    refine q_get (o := 1) (ci := 7) (k := 1) (T := TX7) (v := .int (S 1 1)) C hM (qmem_7 E ad S A b (show qk 1 = 7 from by decide +kernel)) (by decide) rfl hi7 (by decide) hL6 rfl rfl dX10_told_112 ?_
    exact q_iret C hM dX10_told_115 (by exact ⟨⟨rfl, rfl, rfl⟩, by rw [if_neg (by rw [c_1]; decide), if_neg (by rw [c_1]; decide), if_neg (by rw [c_1]; decide), if_neg (by rw [c_1]; decide), if_pos c_1]⟩)
  have n_1_4 := c_1
  by_cases c_1 : a1 = 5
  · have hz : (a1 : Int32).toInt = 5 := by rw [c_1]; rfl
    refine lv_tableIn (off := 115) (tgt := 116) hx hb dX10_told_1 (by rw [hz]; decide) (by rw [hz]; decide) (by rw [hz]; rfl) (by decide) ?_
    refine lv_aload_n hx hb dX10_told_116 rfl (lv_at hl 0 rfl) ?_
    refine q_get (o := 0) (ci := 10) (k := 1) (T := TX10) (v := .ref (ad 3)) C hM (qmem_10 E ad S A b (show qk 0 = 10 from by decide +kernel)) (by decide) rfl hi10 (by decide) hL7 rfl rfl dX10_told_117 ?_
    refine q_get (o := 3) (ci := 9) (k := 6) (T := TX9) (v := .int (S 3 6)) C hM (qmem_9 E ad S A b (show qk 3 = 9 from by decide +kernel)) (by decide) rfl hi9 (by decide) hL8 rfl rfl dX10_told_120 ?_
    exact q_iret C hM dX10_told_123 (by exact ⟨⟨rfl, rfl, rfl⟩, by rw [if_neg (by rw [c_1]; decide), if_neg (by rw [c_1]; decide), if_neg (by rw [c_1]; decide), if_neg (by rw [c_1]; decide), if_neg (by rw [c_1]; decide), if_pos c_1]⟩)
  have n_1_5 := c_1
  by_cases c_1 : a1 = 6
  · have hz : (a1 : Int32).toInt = 6 := by rw [c_1]; rfl
    refine lv_tableIn (off := 123) (tgt := 124) hx hb dX10_told_1 (by rw [hz]; decide) (by rw [hz]; decide) (by rw [hz]; rfl) (by decide) ?_
    refine lv_aload_n hx hb dX10_told_124 rfl (lv_at hl 0 rfl) ?_
    refine q_get (o := 0) (ci := 10) (k := 1) (T := TX10) (v := .ref (ad 3)) C hM (qmem_10 E ad S A b (show qk 0 = 10 from by decide +kernel)) (by decide) rfl hi10 (by decide) hL7 rfl rfl dX10_told_125 ?_
    refine q_get (o := 3) (ci := 9) (k := 7) (T := TX9) (v := .int (S 3 7)) C hM (qmem_9 E ad S A b (show qk 3 = 9 from by decide +kernel)) (by decide) rfl hi9 (by decide) hL9 rfl rfl dX10_told_128 ?_
    exact q_iret C hM dX10_told_131 (by exact ⟨⟨rfl, rfl, rfl⟩, by rw [if_neg (by rw [c_1]; decide), if_neg (by rw [c_1]; decide), if_neg (by rw [c_1]; decide), if_neg (by rw [c_1]; decide), if_neg (by rw [c_1]; decide), if_neg (by rw [c_1]; decide), if_pos c_1]⟩)
  have n_1_6 := c_1
  by_cases c_1 : a1 = 7
  · have hz : (a1 : Int32).toInt = 7 := by rw [c_1]; rfl
    refine lv_tableIn (off := 131) (tgt := 132) hx hb dX10_told_1 (by rw [hz]; decide) (by rw [hz]; decide) (by rw [hz]; rfl) (by decide) ?_
    refine lv_aload_n hx hb dX10_told_132 rfl (lv_at hl 0 rfl) ?_
    refine q_get (o := 0) (ci := 10) (k := 9) (T := TX10) (v := .ref (ad p)) C hM (qmem_10 E ad S A b (show qk 0 = 10 from by decide +kernel)) (by decide) rfl hi10 (by decide) hL0 rfl (by rw [← hbp]; rfl) dX10_told_133 ?_
    refine q_get (o := p) (ci := 5) (k := 3) (T := TX5) (v := .int (S p 3)) C hM (qmem_5 E ad S A b kp) (by omega) rfl hi5 (by decide) hL10 rfl rfl dX10_told_136 ?_
    exact q_iret C hM dX10_told_139 (by exact ⟨⟨rfl, rfl, rfl⟩, by rw [if_neg (by rw [c_1]; decide), if_neg (by rw [c_1]; decide), if_neg (by rw [c_1]; decide), if_neg (by rw [c_1]; decide), if_neg (by rw [c_1]; decide), if_neg (by rw [c_1]; decide), if_neg (by rw [c_1]; decide), if_pos c_1]⟩)
  have n_1_7 := c_1
  by_cases c_1 : a1 = 8
  · have hz : (a1 : Int32).toInt = 8 := by rw [c_1]; rfl
    refine lv_tableIn (off := 139) (tgt := 140) hx hb dX10_told_1 (by rw [hz]; decide) (by rw [hz]; decide) (by rw [hz]; rfl) (by decide) ?_
    refine lv_aload_n hx hb dX10_told_140 rfl (lv_at hl 0 rfl) ?_
    refine q_get (o := 0) (ci := 10) (k := 1) (T := TX10) (v := .ref (ad 3)) C hM (qmem_10 E ad S A b (show qk 0 = 10 from by decide +kernel)) (by decide) rfl hi10 (by decide) hL7 rfl rfl dX10_told_141 ?_
    refine lv_aload_n hx hb dX10_told_144 rfl (lv_at hl 0 rfl) ?_
    refine q_get (o := 0) (ci := 10) (k := 9) (T := TX10) (v := .ref (ad p)) C hM (qmem_10 E ad S A b (show qk 0 = 10 from by decide +kernel)) (by decide) rfl hi10 (by decide) hL0 rfl (by rw [← hbp]; rfl) dX10_told_145 ?_
    refine q_callVI (n := 1) (o := 3) (As := [.ref (ad p)]) (rest := []) C hM hA (c_X9_openRoad E ad l S A b 3 (show 3 ∈ qwL from by decide +kernel) p hp nC hC (by omega)) (qmem_9 E ad S A b (show qk 3 = 9 from by decide +kernel)) (by decide) rfl gX10_told_X9_openRoad rfl rfl rfl (by decide +kernel) ⟨Nat.le_of_ble_eq_true rfl, Nat.le_of_ble_eq_true rfl⟩ rfl hl.1 rfl (Nat.le_of_ble_eq_true rfl) ⟨Nat.zero_le _, Nat.zero_le _⟩ dX10_told_148 (fun r_1 S_2 A_3 b_4 H locs qr_1 hM => ?_)
    obtain ⟨⟨e1, e2, e3⟩, er_1⟩ := qr_1
    subst e1; subst e2; subst e3
    exact q_iret C hM dX10_told_151 (by exact ⟨⟨rfl, rfl, rfl⟩, by rw [if_neg (by rw [c_1]; decide), if_neg (by rw [c_1]; decide), if_neg (by rw [c_1]; decide), if_neg (by rw [c_1]; decide), if_neg (by rw [c_1]; decide), if_neg (by rw [c_1]; decide), if_neg (by rw [c_1]; decide), if_neg (by rw [c_1]; decide), if_pos c_1, er_1]⟩)
  have n_1_8 := c_1
  by_cases c_1 : a1 = 9
  · have hz : (a1 : Int32).toInt = 9 := by rw [c_1]; rfl
    refine lv_tableIn (off := 151) (tgt := 152) hx hb dX10_told_1 (by rw [hz]; decide) (by rw [hz]; decide) (by rw [hz]; rfl) (by decide) ?_
    refine lv_aload_n hx hb dX10_told_152 rfl (lv_at hl 0 rfl) ?_
    refine q_get (o := 0) (ci := 10) (k := 1) (T := TX10) (v := .ref (ad 3)) C hM (qmem_10 E ad S A b (show qk 0 = 10 from by decide +kernel)) (by decide) rfl hi10 (by decide) hL7 rfl rfl dX10_told_153 ?_
    refine q_get (o := 3) (ci := 9) (k := 5) (T := TX9) (v := .int (S 3 5)) C hM (qmem_9 E ad S A b (show qk 3 = 9 from by decide +kernel)) (by decide) rfl hi9 (by decide) hL11 rfl rfl dX10_told_156 ?_
    exact q_iret C hM dX10_told_159 (by exact ⟨⟨rfl, rfl, rfl⟩, by rw [if_neg (by rw [c_1]; decide), if_neg (by rw [c_1]; decide), if_neg (by rw [c_1]; decide), if_neg (by rw [c_1]; decide), if_neg (by rw [c_1]; decide), if_neg (by rw [c_1]; decide), if_neg (by rw [c_1]; decide), if_neg (by rw [c_1]; decide), if_neg (by rw [c_1]; decide), if_pos c_1]⟩)
  have n_1_9 := c_1
  by_cases c_1 : a1 = 10
  · have hz : (a1 : Int32).toInt = 10 := by rw [c_1]; rfl
    refine lv_tableIn (off := 159) (tgt := 160) hx hb dX10_told_1 (by rw [hz]; decide) (by rw [hz]; decide) (by rw [hz]; rfl) (by decide) ?_
    refine lv_aload_n hx hb dX10_told_160 rfl (lv_at hl 0 rfl) ?_
    refine q_get (o := 0) (ci := 10) (k := 1) (T := TX10) (v := .ref (ad 3)) C hM (qmem_10 E ad S A b (show qk 0 = 10 from by decide +kernel)) (by decide) rfl hi10 (by decide) hL7 rfl rfl dX10_told_161 ?_
    refine q_callVI (n := 0) (o := 3) (As := []) (rest := []) C hM hA (c_X9_letPosts E ad l S A b 3 (show 3 ∈ qwL from by decide +kernel)) (qmem_9 E ad S A b (show qk 3 = 9 from by decide +kernel)) (by decide) rfl gX10_told_X9_letPosts rfl rfl rfl (by decide +kernel) ⟨Nat.le_of_ble_eq_true rfl, Nat.le_of_ble_eq_true rfl⟩ rfl hl.1 rfl (Nat.le_of_ble_eq_true rfl) ⟨Nat.zero_le _, Nat.zero_le _⟩ dX10_told_164 (fun r_5 S_6 A_7 b_8 H locs qr_5 hM => ?_)
    obtain ⟨⟨e1, e2, e3⟩, er_5⟩ := qr_5
    subst e1; subst e2; subst e3
    exact q_iret C hM dX10_told_167 (by exact ⟨⟨rfl, rfl, rfl⟩, by rw [if_neg (by rw [c_1]; decide), if_neg (by rw [c_1]; decide), if_neg (by rw [c_1]; decide), if_neg (by rw [c_1]; decide), if_neg (by rw [c_1]; decide), if_neg (by rw [c_1]; decide), if_neg (by rw [c_1]; decide), if_neg (by rw [c_1]; decide), if_neg (by rw [c_1]; decide), if_neg (by rw [c_1]; decide), if_pos c_1, er_5]⟩)
  have n_1_10 := c_1
  by_cases c_1 : a1 = 11
  · have hz : (a1 : Int32).toInt = 11 := by rw [c_1]; rfl
    refine lv_tableIn (off := 167) (tgt := 168) hx hb dX10_told_1 (by rw [hz]; decide) (by rw [hz]; decide) (by rw [hz]; rfl) (by decide) ?_
    refine lv_aload_n hx hb dX10_told_168 rfl (lv_at hl 0 rfl) ?_
    refine q_get (o := 0) (ci := 10) (k := 1) (T := TX10) (v := .ref (ad 3)) C hM (qmem_10 E ad S A b (show qk 0 = 10 from by decide +kernel)) (by decide) rfl hi10 (by decide) hL7 rfl rfl dX10_told_169 ?_
    refine q_callVI (n := 0) (o := 3) (As := []) (rest := []) C hM hA (c_X9_allSnow E ad l S A b 3 (show 3 ∈ qwL from by decide +kernel)) (qmem_9 E ad S A b (show qk 3 = 9 from by decide +kernel)) (by decide) rfl gX10_told_X9_allSnow rfl rfl rfl (by decide +kernel) ⟨Nat.le_of_ble_eq_true rfl, Nat.le_of_ble_eq_true rfl⟩ rfl hl.1 rfl (Nat.le_of_ble_eq_true rfl) ⟨Nat.zero_le _, Nat.zero_le _⟩ dX10_told_172 (fun r_9 S_10 A_11 b_12 H locs qr_9 hM => ?_)
    obtain ⟨⟨e1, e2, e3⟩, er_9⟩ := qr_9
    subst e1; subst e2; subst e3
    exact q_iret C hM dX10_told_175 (by exact ⟨⟨rfl, rfl, rfl⟩, by rw [if_neg (by rw [c_1]; decide), if_neg (by rw [c_1]; decide), if_neg (by rw [c_1]; decide), if_neg (by rw [c_1]; decide), if_neg (by rw [c_1]; decide), if_neg (by rw [c_1]; decide), if_neg (by rw [c_1]; decide), if_neg (by rw [c_1]; decide), if_neg (by rw [c_1]; decide), if_neg (by rw [c_1]; decide), if_neg (by rw [c_1]; decide), if_pos c_1, er_9]⟩)
  have n_1_11 := c_1
  by_cases c_1 : a1 = 12
  · have hz : (a1 : Int32).toInt = 12 := by rw [c_1]; rfl
    refine lv_tableIn (off := 175) (tgt := 176) hx hb dX10_told_1 (by rw [hz]; decide) (by rw [hz]; decide) (by rw [hz]; rfl) (by decide) ?_
    refine lv_aload_n hx hb dX10_told_176 rfl (lv_at hl 0 rfl) ?_
    refine q_get (o := 0) (ci := 10) (k := 7) (T := TX10) (v := .ref (ad 164)) C hM (qmem_10 E ad S A b (show qk 0 = 10 from by decide +kernel)) (by decide) rfl hi10 (by decide) hL12 rfl rfl dX10_told_177 ?_
    refine q_get (o := 164) (ci := 6) (k := 0) (T := TX6) (v := .int (S 164 0)) C hM (qmem_6 E ad S A b (show qk 164 = 6 from by decide +kernel)) (by decide) rfl hi6 (by decide) hL13 rfl rfl dX10_told_180 ?_
    exact q_iret C hM dX10_told_183 (by exact ⟨⟨rfl, rfl, rfl⟩, by rw [if_neg (by rw [c_1]; decide), if_neg (by rw [c_1]; decide), if_neg (by rw [c_1]; decide), if_neg (by rw [c_1]; decide), if_neg (by rw [c_1]; decide), if_neg (by rw [c_1]; decide), if_neg (by rw [c_1]; decide), if_neg (by rw [c_1]; decide), if_neg (by rw [c_1]; decide), if_neg (by rw [c_1]; decide), if_neg (by rw [c_1]; decide), if_neg (by rw [c_1]; decide), if_pos c_1]⟩)
  have n_1_12 := c_1
  by_cases c_1 : a1 = 13
  · have hz : (a1 : Int32).toInt = 13 := by rw [c_1]; rfl
    refine lv_tableIn (off := 183) (tgt := 184) hx hb dX10_told_1 (by rw [hz]; decide) (by rw [hz]; decide) (by rw [hz]; rfl) (by decide) ?_
    refine lv_aload_n hx hb dX10_told_184 rfl (lv_at hl 0 rfl) ?_
    refine q_get (o := 0) (ci := 10) (k := 8) (T := TX10) (v := .ref (ad 171)) C hM (qmem_10 E ad S A b (show qk 0 = 10 from by decide +kernel)) (by decide) rfl hi10 (by decide) hL14 rfl rfl dX10_told_185 ?_
    refine q_get (o := 171) (ci := 0) (k := 0) (T := TX0) (v := .int (S 171 0)) C hM (qmem_0 E ad S A b (show qk 171 = 0 from by decide +kernel)) (by decide) rfl hi0 (by decide) hL15 rfl rfl dX10_told_188 ?_
    exact q_iret C hM dX10_told_191 (by exact ⟨⟨rfl, rfl, rfl⟩, by rw [if_neg (by rw [c_1]; decide), if_neg (by rw [c_1]; decide), if_neg (by rw [c_1]; decide), if_neg (by rw [c_1]; decide), if_neg (by rw [c_1]; decide), if_neg (by rw [c_1]; decide), if_neg (by rw [c_1]; decide), if_neg (by rw [c_1]; decide), if_neg (by rw [c_1]; decide), if_neg (by rw [c_1]; decide), if_neg (by rw [c_1]; decide), if_neg (by rw [c_1]; decide), if_neg (by rw [c_1]; decide), if_pos c_1]⟩)
  have n_1_13 := c_1
  by_cases c_1 : a1 = 14
  · have hz : (a1 : Int32).toInt = 14 := by rw [c_1]; rfl
    refine lv_tableIn (off := 191) (tgt := 192) hx hb dX10_told_1 (by rw [hz]; decide) (by rw [hz]; decide) (by rw [hz]; rfl) (by decide) ?_
    refine lv_aload_n hx hb dX10_told_192 rfl (lv_at hl 0 rfl) ?_
    refine q_get (o := 0) (ci := 10) (k := 3) (T := TX10) (v := .ref (ad 15)) C hM (qmem_10 E ad S A b (show qk 0 = 10 from by decide +kernel)) (by decide) rfl hi10 (by decide) hL16 rfl rfl dX10_told_193 ?_
    refine q_get (o := 15) (ci := 4) (k := 1) (T := TX4) (v := .int (S 15 1)) C hM (qmem_4 E ad S A b (show qk 15 = 4 from by decide +kernel)) (by decide) rfl hi4 (by decide) hL17 rfl rfl dX10_told_196 ?_
    exact q_iret C hM dX10_told_199 (by exact ⟨⟨rfl, rfl, rfl⟩, by rw [if_neg (by rw [c_1]; decide), if_neg (by rw [c_1]; decide), if_neg (by rw [c_1]; decide), if_neg (by rw [c_1]; decide), if_neg (by rw [c_1]; decide), if_neg (by rw [c_1]; decide), if_neg (by rw [c_1]; decide), if_neg (by rw [c_1]; decide), if_neg (by rw [c_1]; decide), if_neg (by rw [c_1]; decide), if_neg (by rw [c_1]; decide), if_neg (by rw [c_1]; decide), if_neg (by rw [c_1]; decide), if_neg (by rw [c_1]; decide), if_pos c_1]⟩)
  have n_1_14 := c_1
  have m_1_0 := q_neI (i := 0) (by decide) n_1_0
  have m_1_1 := q_neI (i := 1) (by decide) n_1_1
  have m_1_2 := q_neI (i := 2) (by decide) n_1_2
  have m_1_3 := q_neI (i := 3) (by decide) n_1_3
  have m_1_4 := q_neI (i := 4) (by decide) n_1_4
  have m_1_5 := q_neI (i := 5) (by decide) n_1_5
  have m_1_6 := q_neI (i := 6) (by decide) n_1_6
  have m_1_7 := q_neI (i := 7) (by decide) n_1_7
  have m_1_8 := q_neI (i := 8) (by decide) n_1_8
  have m_1_9 := q_neI (i := 9) (by decide) n_1_9
  have m_1_10 := q_neI (i := 10) (by decide) n_1_10
  have m_1_11 := q_neI (i := 11) (by decide) n_1_11
  have m_1_12 := q_neI (i := 12) (by decide) n_1_12
  have m_1_13 := q_neI (i := 13) (by decide) n_1_13
  have m_1_14 := q_neI (i := 14) (by decide) n_1_14
  refine lv_tableOut (tgt := 200) hx hb dX10_told_1 (by omega) (by decide) ?_
  refine lv_ldc (v := (-1000000002)) hx hb C.2.2.2.1 hL18 dX10_told_200 ?_
  exact q_iret C hM dX10_told_202 (by exact ⟨⟨rfl, rfl, rfl⟩, by rw [if_neg n_1_0, if_neg n_1_1, if_neg n_1_2, if_neg n_1_3, if_neg n_1_4, if_neg n_1_5, if_neg n_1_6, if_neg n_1_7, if_neg n_1_8, if_neg n_1_9, if_neg n_1_10, if_neg n_1_11, if_neg n_1_12, if_neg n_1_13, if_neg n_1_14]⟩)

set_option maxHeartbeats 4000000 in
set_option maxRecDepth 100000 in
theorem c_X10_worth (E : qE) (ad : Nat → Nat) (l : Launch) (S A : qA2) (b : qB) (p : Nat) (hp : qpl p) (hbp : b.1 = p) (a1 a2 : Int32) (nP : Nat) (hPo : S p 4 = nI nP) (hPb : nP ≤ 6) (nK : Nat) (hK : S p 5 = nI nK) (hKb : nK ≤ 5) : MI E ad l yX10_worth wsX10_worth { frames := 2, cells := 0, slots := 0, locals := 43 } [.ref (ad 0), .int a1, .int a2] S A b (fun r S' A' b' => (S = S' ∧ A = A' ∧ b = b') ∧ r = (qix a1 nP).elim (-1000000001) (fun k => (qix a2 nK).elim (-1000000001) (fun c => A 7 c + A (p + 4) c * A (p + 2) k))) := by
  obtain ⟨⟨kp, kp1, kp2, kp3, kp4, kp5, kp6⟩, ⟨lp1, lp2, lp3, lp4, lp5, lp6⟩, bp, bp7⟩ := qpl_all hp
  refine MI.of (cc := cX10_worth) (maxL := 3) (ret := some .int) RX10 rfl (by decide) rfl ?_
  intro pg e s m below meth cd C hM
  have hx := C.1
  have hb := C.2.1
  have hts := C.2.2.2.2.1
  have hA : ∀ q, s.heap.size ≤ q → qAr ad s.heap.size q := fun _ h => Or.inr h
  have hi10 : ∀ w ∈ u_ws RX10 TX10 11, w ∈ wsX10_worth := by decide +kernel
  have hL0 := hts (.fieldLink RX10 19 "CrowFences" "now" "LCrowFences$Winter;") (by decide +kernel)
  have hL1 := hts (.fieldLink RX10 71 "CrowFences" "plan" "LCrowFences$Plan;") (by decide +kernel)
  have hL2 := hts (.constant RX10 160 (-1000000001)) (by decide +kernel)
  have hl := lv_entry ([.ref (ad 0), .int a1, .int a2]) (n := 3) (Nat.le_of_ble_eq_true rfl)
  rw [lg_entry_eq]
  generalize (lg_sl ([.ref (ad 0), .int a1, .int a2]) ++ List.replicate (3 - (lg_sl ([.ref (ad 0), .int a1, .int a2])).length) Slot.unset).toArray = ls at hl ⊢
  have hl : lv_has ls 3 [(0, .ref (ad 0)), (1, .int a1), (2, .int a2)] := hl
  refine lv_aload_n hx hb dX10_worth_0 rfl (lv_at hl 0 rfl) ?_
  refine lv_iload_n hx hb dX10_worth_1 rfl (lv_at hl 1 rfl) ?_
  refine q_callVI (n := 1) (o := 0) (As := [.int a1]) (rest := []) C hM hA (c_X10_isPost E ad l S A b p hp hbp a1 nP hPo (by omega)) (qmem_10 E ad S A b (show qk 0 = 10 from by decide +kernel)) (by decide) rfl gX10_worth_X10_isPost rfl rfl rfl (by decide +kernel) ⟨Nat.le_of_ble_eq_true rfl, Nat.le_of_ble_eq_true rfl⟩ rfl hl.1 rfl (Nat.le_of_ble_eq_true rfl) ⟨Nat.zero_le _, Nat.zero_le _⟩ dX10_worth_2 (fun r_1 S_2 A_3 b_4 H locs qr_1 hM => ?_)
  obtain ⟨⟨e1, e2, e3⟩, hDr_1⟩ := qr_1
  subst e1; subst e2; subst e3
  rcases hDr_1 with ⟨er_1, ka1, hka1, eka1⟩ | ⟨er_1, hnoa1⟩
  · skip
    subst er_1
    subst eka1
    refine lv_if_eq (tgt := 32) hx hb dX10_worth_5 (by decide) (fun c_5 => ?_) (fun c_5 => ?_)
    · skip
      have c_5 : 1 = 0 := (nI_eq (a := 1) (b := 0) (by omega) (by omega)).mp c_5
      exact absurd c_5 (by decide)
    · skip
      have c_5 : ¬ (1 = 0) := fun z => c_5 ((nI_eq (a := 1) (b := 0) (by omega) (by omega)).mpr z)
      refine lv_aload_n hx hb dX10_worth_8 rfl (lv_at hl 0 rfl) ?_
      refine lv_iload_n hx hb dX10_worth_9 rfl (lv_at hl 2 rfl) ?_
      refine q_callVI (n := 1) (o := 0) (As := [.int a2]) (rest := []) C hM hA (c_X10_isCrow E ad l S A b p hp hbp a2 nK hK (by omega)) (qmem_10 E ad S A b (show qk 0 = 10 from by decide +kernel)) (by decide) rfl gX10_worth_X10_isCrow rfl rfl rfl (by decide +kernel) ⟨Nat.le_of_ble_eq_true rfl, Nat.le_of_ble_eq_true rfl⟩ rfl hl.1 rfl (Nat.le_of_ble_eq_true rfl) ⟨Nat.zero_le _, Nat.zero_le _⟩ dX10_worth_10 (fun r_5 S_6 A_7 b_8 H locs qr_5 hM => ?_)
      obtain ⟨⟨e1, e2, e3⟩, hDr_5⟩ := qr_5
      subst e1; subst e2; subst e3
      rcases hDr_5 with ⟨er_5, ka2, hka2, eka2⟩ | ⟨er_5, hnoa2⟩
      · skip
        subst er_5
        subst eka2
        refine lv_if_eq (tgt := 32) hx hb dX10_worth_13 (by decide) (fun c_13 => ?_) (fun c_13 => ?_)
        · skip
          have c_13 : 1 = 0 := (nI_eq (a := 1) (b := 0) (by omega) (by omega)).mp c_13
          exact absurd c_13 (by decide)
        · skip
          have c_13 : ¬ (1 = 0) := fun z => c_13 ((nI_eq (a := 1) (b := 0) (by omega) (by omega)).mpr z)
          refine lv_aload_n hx hb dX10_worth_16 rfl (lv_at hl 0 rfl) ?_
          refine q_get (o := 0) (ci := 10) (k := 1) (T := TX10) (v := .ref (ad 3)) C hM (qmem_10 E ad S A b (show qk 0 = 10 from by decide +kernel)) (by decide) rfl hi10 (by decide) hL0 rfl rfl dX10_worth_17 ?_
          refine lv_aload_n hx hb dX10_worth_20 rfl (lv_at hl 0 rfl) ?_
          refine q_get (o := 0) (ci := 10) (k := 9) (T := TX10) (v := .ref (ad p)) C hM (qmem_10 E ad S A b (show qk 0 = 10 from by decide +kernel)) (by decide) rfl hi10 (by decide) hL1 rfl (by rw [← hbp]; rfl) dX10_worth_21 ?_
          refine lv_iload_n hx hb dX10_worth_24 rfl (lv_at hl 1 rfl) ?_
          refine lv_iload_n hx hb dX10_worth_25 rfl (lv_at hl 2 rfl) ?_
          refine q_callVI (n := 3) (o := 3) (As := [.ref (ad p), .int (nI ka1), .int (nI ka2)]) (rest := []) C hM hA (c_X9_worthOf E ad l S A b 3 (show 3 ∈ qwL from by decide +kernel) p hp ka1 ka2 (by omega) (by omega)) (qmem_9 E ad S A b (show qk 3 = 9 from by decide +kernel)) (by decide) rfl gX10_worth_X9_worthOf rfl rfl rfl (by decide +kernel) ⟨Nat.le_of_ble_eq_true rfl, Nat.le_of_ble_eq_true rfl⟩ rfl hl.1 rfl (Nat.le_of_ble_eq_true rfl) ⟨Nat.zero_le _, Nat.zero_le _⟩ dX10_worth_26 (fun r_9 S_10 A_11 b_12 H locs qr_9 hM => ?_)
          obtain ⟨⟨e1, e2, e3⟩, er_9⟩ := qr_9
          subst e1; subst e2; subst e3
          refine lv_goto (tgt := 34) hx hb dX10_worth_29 (by decide) ?_
          exact q_iret C hM dX10_worth_34 (by exact ⟨⟨rfl, rfl, rfl⟩, by rw [qix_in hka1 (by omega)]; dsimp only [Option.elim]; rw [qix_in hka2 (by omega), er_9] <;> rfl⟩)
      · skip
        subst er_5
        refine lv_if_eq (tgt := 32) hx hb dX10_worth_13 (by decide) (fun c_13 => ?_) (fun c_13 => ?_)
        · skip
          have c_13 : 0 = 0 := (nI_eq (a := 0) (b := 0) (by omega) (by omega)).mp c_13
          refine lv_ldc (v := (-1000000001)) hx hb C.2.2.2.1 hL2 dX10_worth_32 ?_
          exact q_iret C hM dX10_worth_34 (by exact ⟨⟨rfl, rfl, rfl⟩, by rw [qix_in hka1 (by omega)]; dsimp only [Option.elim]; rw [qix_out (by omega) hnoa2] <;> rfl⟩)
        · skip
          have c_13 : ¬ (0 = 0) := fun z => c_13 ((nI_eq (a := 0) (b := 0) (by omega) (by omega)).mpr z)
          exact absurd rfl c_13
  · skip
    subst er_1
    refine lv_if_eq (tgt := 32) hx hb dX10_worth_5 (by decide) (fun c_5 => ?_) (fun c_5 => ?_)
    · skip
      have c_5 : 0 = 0 := (nI_eq (a := 0) (b := 0) (by omega) (by omega)).mp c_5
      refine lv_ldc (v := (-1000000001)) hx hb C.2.2.2.1 hL2 dX10_worth_32 ?_
      exact q_iret C hM dX10_worth_34 (by exact ⟨⟨rfl, rfl, rfl⟩, by rw [qix_out (by omega) hnoa1] <;> rfl⟩)
    · skip
      have c_5 : ¬ (0 = 0) := fun z => c_5 ((nI_eq (a := 0) (b := 0) (by omega) (by omega)).mpr z)
      exact absurd rfl c_5

set_option maxHeartbeats 4000000 in
set_option maxRecDepth 100000 in
theorem c_X10_out (E : qE) (ad : Nat → Nat) (l : Launch) (S A : qA2) (b : qB) (p : Nat) (hp : qpl p) (hbp : b.1 = p) (a1 a2 : Int32) (nC : Nat) (hC : S p 0 = nI nC) (hCb : nC ≤ 12) : MI E ad l yX10_out wsX10_out { frames := 2, cells := 0, slots := 0, locals := 43 } [.ref (ad 0), .int a1, .int a2] S A b (fun r S' A' b' => (S = S' ∧ A = A' ∧ b = b') ∧ r = (qix a1 nC).elim (-1000000001) (fun k => (qir a2 1 99).elim (-1000000002) (fun t => (A 4 k + nI t - 1) / nI t))) := by
  obtain ⟨⟨kp, kp1, kp2, kp3, kp4, kp5, kp6⟩, ⟨lp1, lp2, lp3, lp4, lp5, lp6⟩, bp, bp7⟩ := qpl_all hp
  refine MI.of (cc := cX10_out) (maxL := 3) (ret := some .int) RX10 rfl (by decide) rfl ?_
  intro pg e s m below meth cd C hM
  have hx := C.1
  have hb := C.2.1
  have hts := C.2.2.2.2.1
  have hA : ∀ q, s.heap.size ≤ q → qAr ad s.heap.size q := fun _ h => Or.inr h
  have hi9 : ∀ w ∈ u_ws RX9 TX9 8, w ∈ wsX10_out := by decide +kernel
  have hi10 : ∀ w ∈ u_ws RX10 TX10 11, w ∈ wsX10_out := by decide +kernel
  have hL0 := hts (.fieldLink RX10 19 "CrowFences" "now" "LCrowFences$Winter;") (by decide +kernel)
  have hL1 := hts (.fieldLink RX10 156 "CrowFences$Winter" "snow" "[I") (by decide +kernel)
  have hL2 := hts (.constant RX10 86 (-1000000002)) (by decide +kernel)
  have hL3 := hts (.constant RX10 160 (-1000000001)) (by decide +kernel)
  have hl := lv_entry ([.ref (ad 0), .int a1, .int a2]) (n := 3) (Nat.le_of_ble_eq_true rfl)
  rw [lg_entry_eq]
  generalize (lg_sl ([.ref (ad 0), .int a1, .int a2]) ++ List.replicate (3 - (lg_sl ([.ref (ad 0), .int a1, .int a2])).length) Slot.unset).toArray = ls at hl ⊢
  have hl : lv_has ls 3 [(0, .ref (ad 0)), (1, .int a1), (2, .int a2)] := hl
  refine lv_aload_n hx hb dX10_out_0 rfl (lv_at hl 0 rfl) ?_
  refine lv_iload_n hx hb dX10_out_1 rfl (lv_at hl 1 rfl) ?_
  refine q_callVI (n := 1) (o := 0) (As := [.int a1]) (rest := []) C hM hA (c_X10_isCell E ad l S A b p hp hbp a1 nC hC (by omega)) (qmem_10 E ad S A b (show qk 0 = 10 from by decide +kernel)) (by decide) rfl gX10_out_X10_isCell rfl rfl rfl (by decide +kernel) ⟨Nat.le_of_ble_eq_true rfl, Nat.le_of_ble_eq_true rfl⟩ rfl hl.1 rfl (Nat.le_of_ble_eq_true rfl) ⟨Nat.zero_le _, Nat.zero_le _⟩ dX10_out_2 (fun r_1 S_2 A_3 b_4 H locs qr_1 hM => ?_)
  obtain ⟨⟨e1, e2, e3⟩, hDr_1⟩ := qr_1
  subst e1; subst e2; subst e3
  rcases hDr_1 with ⟨er_1, ka1, hka1, eka1⟩ | ⟨er_1, hnoa1⟩
  · skip
    subst er_1
    subst eka1
    refine lv_if_ne (tgt := 11) hx hb dX10_out_5 (by decide) (fun c_5 => ?_) (fun c_5 => ?_)
    · skip
      have c_5 : ¬ (1 = 0) := fun z => c_5 ((nI_eq (a := 1) (b := 0) (by omega) (by omega)).mpr z)
      refine lv_iload_n hx hb dX10_out_11 rfl (lv_at hl 2 rfl) ?_
      refine lv_iconst (v := 1) hx hb dX10_out_12 (by decide) ?_
      refine lv_bipush (v := 99) hx hb dX10_out_13 (by decide) ?_
      refine q_callSI (n := 3) (As := [.int a2, .int 1, .int 99]) (rest := []) C hM hA (c_X10_within E ad l S A b a2 1 99) gX10_out_X10_within rfl rfl rfl (by decide +kernel) ⟨Nat.le_of_ble_eq_true rfl, Nat.le_of_ble_eq_true rfl⟩ rfl hl.1 rfl (Nat.le_of_ble_eq_true rfl) ⟨Nat.zero_le _, Nat.zero_le _⟩ dX10_out_15 (fun r_5 S_6 A_7 b_8 H locs qr_5 hM => ?_)
      obtain ⟨⟨e1, e2, e3⟩, er_5⟩ := qr_5
      subst e1; subst e2; subst e3
      rcases q01_cases (1 ≤ a2 ∧ a2 ≤ 99) with ⟨hzr_5, hir_5⟩ | ⟨hzr_5, hir_5⟩
      · skip
        rw [hzr_5] at er_5
        subst er_5
        obtain ⟨ka2, hloka2, hhika2, eka2⟩ := qin_of (l := 1) (h := 99) rfl rfl (by omega) (by omega) hir_5
        subst eka2
        refine lv_if_ne (tgt := 24) hx hb dX10_out_18 (by decide) (fun c_18 => ?_) (fun c_18 => ?_)
        · skip
          have c_18 : ¬ (1 = 0) := fun z => c_18 ((nI_eq (a := 1) (b := 0) (by omega) (by omega)).mpr z)
          refine lv_aload_n hx hb dX10_out_24 rfl (lv_at hl 0 rfl) ?_
          refine q_get (o := 0) (ci := 10) (k := 1) (T := TX10) (v := .ref (ad 3)) C hM (qmem_10 E ad S A b (show qk 0 = 10 from by decide +kernel)) (by decide) rfl hi10 (by decide) hL0 rfl rfl dX10_out_25 ?_
          refine q_get (o := 3) (ci := 9) (k := 0) (T := TX9) (v := .ref (ad 4)) C hM (qmem_9 E ad S A b (show qk 3 = 9 from by decide +kernel)) (by decide) rfl hi9 (by decide) hL1 rfl rfl dX10_out_28 ?_
          refine lv_iload_n hx hb dX10_out_31 rfl (lv_at hl 1 rfl) ?_
          refine q_iald (v := A 4 ka1) C hM (show qk 4 = 12 from by decide +kernel) (by rw [(show ql 4 = 12 from by decide +kernel)]; exact vp_nI (by omega) (by omega)) (by rw [nIc (by omega)]) dX10_out_32 ?_
          refine lv_iload_n hx hb dX10_out_33 rfl (lv_at hl 2 rfl) ?_
          refine lv_iadd hx hb dX10_out_34 ?_
          refine lv_iconst (v := 1) hx hb dX10_out_35 (by decide) ?_
          refine lv_isub hx hb dX10_out_36 ?_
          refine lv_iload_n hx hb dX10_out_37 rfl (lv_at hl 2 rfl) ?_
          refine lv_idiv hx hb dX10_out_38 (nI_ne0 (by omega) (by omega)) ?_
          exact q_iret C hM dX10_out_39 (by exact ⟨⟨rfl, rfl, rfl⟩, by rw [qix_in hka1 (by omega)]; dsimp only [Option.elim]; rw [qir_in hloka2 hhika2 (by omega)] <;> rfl⟩)
        · skip
          have c_18 : 1 = 0 := (nI_eq (a := 1) (b := 0) (by omega) (by omega)).mp c_18
          exact absurd c_18 (by decide)
      · skip
        rw [hzr_5] at er_5
        subst er_5
        refine lv_if_ne (tgt := 24) hx hb dX10_out_18 (by decide) (fun c_18 => ?_) (fun c_18 => ?_)
        · skip
          have c_18 : ¬ (0 = 0) := fun z => c_18 ((nI_eq (a := 0) (b := 0) (by omega) (by omega)).mpr z)
          exact absurd rfl c_18
        · skip
          have c_18 : 0 = 0 := (nI_eq (a := 0) (b := 0) (by omega) (by omega)).mp c_18
          refine lv_ldc (v := (-1000000002)) hx hb C.2.2.2.1 hL2 dX10_out_21 ?_
          exact q_iret C hM dX10_out_23 (by exact ⟨⟨rfl, rfl, rfl⟩, by rw [qix_in hka1 (by omega)]; dsimp only [Option.elim]; rw [qir_out hir_5] <;> rfl⟩)
    · skip
      have c_5 : 1 = 0 := (nI_eq (a := 1) (b := 0) (by omega) (by omega)).mp c_5
      exact absurd c_5 (by decide)
  · skip
    subst er_1
    refine lv_if_ne (tgt := 11) hx hb dX10_out_5 (by decide) (fun c_5 => ?_) (fun c_5 => ?_)
    · skip
      have c_5 : ¬ (0 = 0) := fun z => c_5 ((nI_eq (a := 0) (b := 0) (by omega) (by omega)).mpr z)
      exact absurd rfl c_5
    · skip
      have c_5 : 0 = 0 := (nI_eq (a := 0) (b := 0) (by omega) (by omega)).mp c_5
      refine lv_ldc (v := (-1000000001)) hx hb C.2.2.2.1 hL3 dX10_out_8 ?_
      exact q_iret C hM dX10_out_10 (by exact ⟨⟨rfl, rfl, rfl⟩, by rw [qix_out (by omega) hnoa1] <;> rfl⟩)

set_option maxHeartbeats 4000000 in
set_option maxRecDepth 100000 in
theorem c_X10_still (E : qE) (ad : Nat → Nat) (l : Launch) (S A : qA2) (b : qB) (a1 a2 : Int32) : MI E ad l yX10_still wsX10_still { frames := 1, cells := 0, slots := 0, locals := 22 } [.ref (ad 0), .int a1, .int a2] S A b (fun r S' A' b' => (S = S' ∧ A = A' ∧ b = b') ∧ r = (qir a1 0 60).elim (-1000000002) (fun n => (qir a2 0 100).elim (-1000000002) (fun q => (qstill q n).toInt32))) := by
  refine MI.of (cc := cX10_still) (maxL := 6) (ret := some .int) RX10 rfl (by decide) rfl ?_
  intro pg e s m below meth cd C hM
  have hx := C.1
  have hb := C.2.1
  have hts := C.2.2.2.2.1
  have hA : ∀ q, s.heap.size ≤ q → qAr ad s.heap.size q := fun _ h => Or.inr h
  have hL0 := hts (.constantLong RX10 254 (1000000000)) (by decide +kernel)
  have hL1 := hts (.constantLong RX10 256 (100)) (by decide +kernel)
  have hL2 := hts (.constant RX10 86 (-1000000002)) (by decide +kernel)
  have hl := lv_entry ([.ref (ad 0), .int a1, .int a2]) (n := 6) (Nat.le_of_ble_eq_true rfl)
  rw [lg_entry_eq]
  generalize (lg_sl ([.ref (ad 0), .int a1, .int a2]) ++ List.replicate (6 - (lg_sl ([.ref (ad 0), .int a1, .int a2])).length) Slot.unset).toArray = ls at hl ⊢
  have hl : lv_has ls 6 [(0, .ref (ad 0)), (1, .int a1), (2, .int a2)] := hl
  refine lv_iload_n hx hb dX10_still_0 rfl (lv_at hl 1 rfl) ?_
  refine lv_iconst (v := 0) hx hb dX10_still_1 (by decide) ?_
  refine lv_bipush (v := 60) hx hb dX10_still_2 (by decide) ?_
  refine q_callSI (n := 3) (As := [.int a1, .int 0, .int 60]) (rest := []) C hM hA (c_X10_within E ad l S A b a1 0 60) gX10_still_X10_within rfl rfl rfl (by decide +kernel) ⟨Nat.le_of_ble_eq_true rfl, Nat.le_of_ble_eq_true rfl⟩ rfl hl.1 rfl (Nat.le_of_ble_eq_true rfl) ⟨Nat.zero_le _, Nat.zero_le _⟩ dX10_still_4 (fun r_1 S_2 A_3 b_4 H locs qr_1 hM => ?_)
  obtain ⟨⟨e1, e2, e3⟩, er_1⟩ := qr_1
  subst e1; subst e2; subst e3
  rcases q01_cases (0 ≤ a1 ∧ a1 ≤ 60) with ⟨hzr_1, hir_1⟩ | ⟨hzr_1, hir_1⟩
  · skip
    rw [hzr_1] at er_1
    subst er_1
    obtain ⟨ka1, hloka1, hhika1, eka1⟩ := qin_of (l := 0) (h := 60) rfl rfl (by omega) (by omega) hir_1
    subst eka1
    refine lv_if_eq (tgt := 20) hx hb dX10_still_7 (by decide) (fun c_7 => ?_) (fun c_7 => ?_)
    · skip
      have c_7 : 1 = 0 := (nI_eq (a := 1) (b := 0) (by omega) (by omega)).mp c_7
      exact absurd c_7 (by decide)
    · skip
      have c_7 : ¬ (1 = 0) := fun z => c_7 ((nI_eq (a := 1) (b := 0) (by omega) (by omega)).mpr z)
      refine lv_iload_n hx hb dX10_still_10 rfl (lv_at hl 2 rfl) ?_
      refine lv_iconst (v := 0) hx hb dX10_still_11 (by decide) ?_
      refine lv_bipush (v := 100) hx hb dX10_still_12 (by decide) ?_
      refine q_callSI (n := 3) (As := [.int a2, .int 0, .int 100]) (rest := []) C hM hA (c_X10_within E ad l S A b a2 0 100) gX10_still_X10_within rfl rfl rfl (by decide +kernel) ⟨Nat.le_of_ble_eq_true rfl, Nat.le_of_ble_eq_true rfl⟩ rfl hl.1 rfl (Nat.le_of_ble_eq_true rfl) ⟨Nat.zero_le _, Nat.zero_le _⟩ dX10_still_14 (fun r_5 S_6 A_7 b_8 H locs qr_5 hM => ?_)
      obtain ⟨⟨e1, e2, e3⟩, er_5⟩ := qr_5
      subst e1; subst e2; subst e3
      rcases q01_cases (0 ≤ a2 ∧ a2 ≤ 100) with ⟨hzr_5, hir_5⟩ | ⟨hzr_5, hir_5⟩
      · skip
        rw [hzr_5] at er_5
        subst er_5
        obtain ⟨ka2, hloka2, hhika2, eka2⟩ := qin_of (l := 0) (h := 100) rfl rfl (by omega) (by omega) hir_5
        subst eka2
        refine lv_if_ne (tgt := 23) hx hb dX10_still_17 (by decide) (fun c_17 => ?_) (fun c_17 => ?_)
        · skip
          have c_17 : ¬ (1 = 0) := fun z => c_17 ((nI_eq (a := 1) (b := 0) (by omega) (by omega)).mpr z)
          refine lv_ldc2 (v := 1000000000) hx hb C.2.2.2.1 hL0 dX10_still_23 ?_
          refine lv_lstore_n (lv' := [(3, .long 1000000000), (0, .ref (ad 0)), (1, .int (nI ka1)), (2, .int (nI ka2))]) hx hb dX10_still_26 rfl hl (by decide) rfl (fun ls hl => ?_)
          refine lv_iconst (v := 0) hx hb dX10_still_27 (by decide) ?_
          refine lv_istore (lv' := [(5, .int 0), (3, .long 1000000000), (0, .ref (ad 0)), (1, .int (nI ka1)), (2, .int (nI ka2))]) hx hb dX10_still_28 hl (by decide) rfl (fun ls hl => ?_)
          have loop30 : ∀ (fu : Nat) (od : Int64) (k : Nat) (hk : k ≤ ka1) (ht : od = qstill ka2 k), ka1 - k < fu → ∀ (H : Heap) (locs : List Loc) (ls : Array Slot), qM E ad S A b (qAr ad s.heap.size) s H locs → lv_has ls 6 [(5, .int (nI k)), (3, .long od), (0, .ref (ad 0)), (1, .int (nI ka1)), (2, .int (nI ka2))] → W pg l e (headSpec wsX10_still { frames := 1, cells := 0, slots := 0, locals := 22 }).room s m ([.ref (ad 0), .int (nI ka1), .int (nI ka2)] : List Value).toArray below meth cd H locs 0 0 (MQ below (qQi E ad s.heap.size (fun r S' A' b' => (S = S' ∧ A = A' ∧ b = b') ∧ r = (qir (nI ka1) 0 60).elim (-1000000002) (fun n => (qir (nI ka2) 0 100).elim (-1000000002) (fun q => (qstill q n).toInt32)))) ([.ref (ad 0), .int (nI ka1), .int (nI ka2)] : List Value).toArray s 0 0 (qAr ad s.heap.size)) (F0 m 30 ls []) := by
            intro fu
            induction fu with
            | zero => intro od k hk ht hn; exact absurd hn (Nat.not_lt_zero _)
            | succ fu ih30 =>
              intro od k hk ht hn H locs ls hM hl
              refine lv_iload hx hb dX10_still_30 (lv_at hl 0 rfl) ?_
              refine lv_iload_n hx hb dX10_still_32 rfl (lv_at hl 3 rfl) ?_
              refine lv_icmp_ge (tgt := 54) hx hb dX10_still_33 (by decide) (fun c_33 => ?_) (fun c_33 => ?_)
              · skip
                have c_33 : ka1 ≤ k := (nI_leI (a := ka1) (b := k) (by omega) (by omega)).mp c_33
                refine lv_lload_n hx hb dX10_still_54 rfl (lv_at hl 1 rfl) ?_
                refine lv_l2i (v := (od : Int64).toInt32) hx hb dX10_still_55 rfl ?_
                exact q_iret C hM dX10_still_56 (by exact ⟨⟨rfl, rfl, rfl⟩, by rw [qir_in hloka1 hhika1 (by omega)]; dsimp only [Option.elim]; rw [qir_in hloka2 hhika2 (by omega)]; rw [ht, show k = ka1 by omega]⟩)
              · skip
                have c_33 : ¬ (ka1 ≤ k) := fun z => c_33 ((nI_leI (a := ka1) (b := k) (by omega) (by omega)).mpr z)
                refine lv_lload_n hx hb dX10_still_36 rfl (lv_at hl 1 rfl) ?_
                refine lv_bipush (v := 100) hx hb dX10_still_37 (by decide) ?_
                refine lv_iload_n hx hb dX10_still_39 rfl (lv_at hl 4 rfl) ?_
                refine lv_isub hx hb dX10_still_40 ?_
                refine lv_i2l (v := (100 - (nI ka2) : Int32).toInt64) hx hb dX10_still_41 rfl ?_
                refine lv_lmul hx hb dX10_still_42 ?_
                refine lv_ldc2 (v := 100) hx hb C.2.2.2.1 hL1 dX10_still_43 ?_
                refine lv_ldiv hx hb dX10_still_46 (by decide) ?_
                refine lv_lstore_n (lv' := [(3, .long ((od * ((100 - (nI ka2) : Int32).toInt64)) / 100)), (5, .int (nI k)), (0, .ref (ad 0)), (1, .int (nI ka1)), (2, .int (nI ka2))]) hx hb dX10_still_47 rfl hl (by decide) rfl (fun ls hl => ?_)
                refine lv_iinc (v := nI (k + 1)) (lv' := [(5, .int (nI (k + 1))), (3, .long ((od * ((100 - (nI ka2) : Int32).toInt64)) / 100)), (0, .ref (ad 0)), (1, .int (nI ka1)), (2, .int (nI ka2))]) hx hb dX10_still_48 hl (k := 1) rfl (by rw [nI_succ]; rfl) (by decide) rfl (fun ls hl => ?_)
                refine lv_goto (tgt := 30) hx hb dX10_still_51 (by decide) ?_
                exact ih30 ((od * ((100 - (nI ka2) : Int32).toInt64)) / 100) (k + 1) (by omega) (by rw [ht]; rfl) (by omega) _ _ _ hM hl
          exact loop30 (ka1 - 0 + 1) 1000000000 0 (by omega) rfl (Nat.lt_succ_self _) _ _ _ hM hl
        · skip
          have c_17 : 1 = 0 := (nI_eq (a := 1) (b := 0) (by omega) (by omega)).mp c_17
          exact absurd c_17 (by decide)
      · skip
        rw [hzr_5] at er_5
        subst er_5
        refine lv_if_ne (tgt := 23) hx hb dX10_still_17 (by decide) (fun c_17 => ?_) (fun c_17 => ?_)
        · skip
          have c_17 : ¬ (0 = 0) := fun z => c_17 ((nI_eq (a := 0) (b := 0) (by omega) (by omega)).mpr z)
          exact absurd rfl c_17
        · skip
          have c_17 : 0 = 0 := (nI_eq (a := 0) (b := 0) (by omega) (by omega)).mp c_17
          refine lv_ldc (v := (-1000000002)) hx hb C.2.2.2.1 hL2 dX10_still_20 ?_
          exact q_iret C hM dX10_still_22 (by exact ⟨⟨rfl, rfl, rfl⟩, by rw [qir_in hloka1 hhika1 (by omega)]; dsimp only [Option.elim]; rw [qir_out hir_5] <;> rfl⟩)
  · skip
    rw [hzr_1] at er_1
    subst er_1
    refine lv_if_eq (tgt := 20) hx hb dX10_still_7 (by decide) (fun c_7 => ?_) (fun c_7 => ?_)
    · skip
      have c_7 : 0 = 0 := (nI_eq (a := 0) (b := 0) (by omega) (by omega)).mp c_7
      refine lv_ldc (v := (-1000000002)) hx hb C.2.2.2.1 hL2 dX10_still_20 ?_
      exact q_iret C hM dX10_still_22 (by exact ⟨⟨rfl, rfl, rfl⟩, by rw [qir_out hir_1] <;> rfl⟩)
    · skip
      have c_7 : ¬ (0 = 0) := fun z => c_7 ((nI_eq (a := 0) (b := 0) (by omega) (by omega)).mpr z)
      exact absurd rfl c_7

set_option maxHeartbeats 4000000 in
set_option maxRecDepth 100000 in
theorem c_X10_judge (E : qE) (ad : Nat → Nat) (l : Launch) (S A : qA2) (b : qB) (nB : Nat) (hN : S 171 0 = nI nB) (hNb : nB ≤ 15) (bc : Nat → Nat) (hbc : ∀ k, k < nB → A 172 k = nI (bc k) ∧ bc k < 12) : MI E ad l yX10_judge wsX10_judge { frames := 1, cells := 0, slots := 0, locals := 22 } [.ref (ad 0)] S A b (fun r S' A' b' => (S = S' ∧ A = A' ∧ b = b') ∧ r = qwrong (A 4) bc (A 173) 0 nB) := by
  refine MI.of (cc := cX10_judge) (maxL := 1) (ret := some .int) RX10 rfl (by decide) rfl ?_
  intro pg e s m below meth cd C hM
  have hx := C.1
  have hb := C.2.1
  have hts := C.2.2.2.2.1
  have hA : ∀ q, s.heap.size ≤ q → qAr ad s.heap.size q := fun _ h => Or.inr h
  have hi10 : ∀ w ∈ u_ws RX10 TX10 11, w ∈ wsX10_judge := by decide +kernel
  have hL0 := hts (.fieldLink RX10 64 "CrowFences" "book" "LCrowFences$Book;") (by decide +kernel)
  have hL1 := hts (.fieldLink RX10 19 "CrowFences" "now" "LCrowFences$Winter;") (by decide +kernel)
  have hl := lv_entry ([.ref (ad 0)]) (n := 1) (Nat.le_of_ble_eq_true rfl)
  rw [lg_entry_eq]
  generalize (lg_sl ([.ref (ad 0)]) ++ List.replicate (1 - (lg_sl ([.ref (ad 0)])).length) Slot.unset).toArray = ls at hl ⊢
  have hl : lv_has ls 1 [(0, .ref (ad 0))] := hl
  refine lv_aload_n hx hb dX10_judge_0 rfl (lv_at hl 0 rfl) ?_
  refine q_get (o := 0) (ci := 10) (k := 8) (T := TX10) (v := .ref (ad 171)) C hM (qmem_10 E ad S A b (show qk 0 = 10 from by decide +kernel)) (by decide) rfl hi10 (by decide) hL0 rfl rfl dX10_judge_1 ?_
  refine lv_aload_n hx hb dX10_judge_4 rfl (lv_at hl 0 rfl) ?_
  refine q_get (o := 0) (ci := 10) (k := 1) (T := TX10) (v := .ref (ad 3)) C hM (qmem_10 E ad S A b (show qk 0 = 10 from by decide +kernel)) (by decide) rfl hi10 (by decide) hL1 rfl rfl dX10_judge_5 ?_
  refine q_callVI (n := 1) (o := 171) (As := [.ref (ad 3)]) (rest := []) C hM hA (c_X0_firstWrong E ad l S A b 3 (show 3 ∈ qwL from by decide +kernel) nB hN (by omega) bc hbc) (qmem_0 E ad S A b (show qk 171 = 0 from by decide +kernel)) (by decide) rfl gX10_judge_X0_firstWrong rfl rfl rfl (by decide +kernel) ⟨Nat.le_of_ble_eq_true rfl, Nat.le_of_ble_eq_true rfl⟩ rfl hl.1 rfl (Nat.le_of_ble_eq_true rfl) ⟨Nat.zero_le _, Nat.zero_le _⟩ dX10_judge_8 (fun r_1 S_2 A_3 b_4 H locs qr_1 hM => ?_)
  obtain ⟨⟨e1, e2, e3⟩, er_1⟩ := qr_1
  subst e1; subst e2; subst e3
  exact q_iret C hM dX10_judge_11 (by exact ⟨⟨rfl, rfl, rfl⟩, er_1⟩)

set_option maxHeartbeats 4000000 in
set_option maxRecDepth 100000 in
theorem c_X10_seed (E : qE) (ad : Nat → Nat) (l : Launch) (S A : qA2) (b : qB) (a1 : Int32) : MI E ad l yX10_seed wsX10_seed { frames := 0, cells := 0, slots := 0, locals := 0 } [.ref (ad 0), .int a1] S A b (fun r S' A' b' => (A = A' ∧ b = b') ∧ ((a1 < 0 ∧ r = (-1000000002) ∧ S = S') ∨ (¬ a1 < 0 ∧ r = S 137 0 ∧ S' = q2 S 137 0 a1))) := by
  refine MI.of (cc := cX10_seed) (maxL := 3) (ret := some .int) RX10 rfl (by decide) rfl ?_
  intro pg e s m below meth cd C hM
  have hx := C.1
  have hb := C.2.1
  have hts := C.2.2.2.2.1
  have hA : ∀ q, s.heap.size ≤ q → qAr ad s.heap.size q := fun _ h => Or.inr h
  have hi1 : ∀ w ∈ u_ws RX1 TX1 1, w ∈ wsX10_seed := by decide +kernel
  have hi10 : ∀ w ∈ u_ws RX10 TX10 11, w ∈ wsX10_seed := by decide +kernel
  have hL0 := hts (.fieldLink RX10 36 "CrowFences" "draws" "LCrowFences$Draws;") (by decide +kernel)
  have hL1 := hts (.fieldLink RX10 283 "CrowFences$Draws" "seed" "I") (by decide +kernel)
  have hL2 := hts (.constant RX10 86 (-1000000002)) (by decide +kernel)
  have hl := lv_entry ([.ref (ad 0), .int a1]) (n := 3) (Nat.le_of_ble_eq_true rfl)
  rw [lg_entry_eq]
  generalize (lg_sl ([.ref (ad 0), .int a1]) ++ List.replicate (3 - (lg_sl ([.ref (ad 0), .int a1])).length) Slot.unset).toArray = ls at hl ⊢
  have hl : lv_has ls 3 [(0, .ref (ad 0)), (1, .int a1)] := hl
  refine lv_iload_n hx hb dX10_seed_0 rfl (lv_at hl 1 rfl) ?_
  refine lv_if_ge (tgt := 7) hx hb dX10_seed_1 (by decide) (fun c_1 => ?_) (fun c_1 => ?_)
  · skip
    refine lv_aload_n hx hb dX10_seed_7 rfl (lv_at hl 0 rfl) ?_
    refine q_get (o := 0) (ci := 10) (k := 4) (T := TX10) (v := .ref (ad 137)) C hM (qmem_10 E ad S A b (show qk 0 = 10 from by decide +kernel)) (by decide) rfl hi10 (by decide) hL0 rfl rfl dX10_seed_8 ?_
    refine q_get (o := 137) (ci := 1) (k := 0) (T := TX1) (v := .int (S 137 0)) C hM (qmem_1 E ad S A b (show qk 137 = 1 from by decide +kernel)) (by decide) rfl hi1 (by decide) hL1 rfl rfl dX10_seed_11 ?_
    refine lv_istore_n (lv' := [(2, .int (S 137 0)), (0, .ref (ad 0)), (1, .int a1)]) hx hb dX10_seed_14 rfl hl (by decide) rfl (fun ls hl => ?_)
    refine lv_aload_n hx hb dX10_seed_15 rfl (lv_at hl 1 rfl) ?_
    refine q_get (o := 0) (ci := 10) (k := 4) (T := TX10) (v := .ref (ad 137)) C hM (qmem_10 E ad S A b (show qk 0 = 10 from by decide +kernel)) (by decide) rfl hi10 (by decide) hL0 rfl rfl dX10_seed_16 ?_
    refine lv_iload_n hx hb dX10_seed_19 rfl (lv_at hl 2 rfl) ?_
    refine q_put (o := 137) (ci := 1) (k := 0) (T := TX1) (ty := .int) (v := a1) C hM (qmem_1 E ad S A b (show qk 137 = 1 from by decide +kernel)) (by decide) rfl hi1 tyX1 tyX1_ok nmX1 (by decide) hL1 rfl rfl (by decide +kernel) rfl rfl (Nat.le_of_ble_eq_true rfl) (qs_1_0 E ad S A b (show qk 137 = 1 from by decide +kernel) a1) dX10_seed_20 (fun H locs hM => ?_)
    obtain ⟨S_1, eS_1⟩ : ∃ zz, zz = q2 S 137 0 a1 := ⟨_, rfl⟩
    rw [← eS_1] at hM
    refine lv_iload_n hx hb dX10_seed_23 rfl (lv_at hl 0 rfl) ?_
    exact q_iret C hM dX10_seed_24 (by exact ⟨⟨rfl, rfl⟩, Or.inr ⟨Int32.not_lt.mpr c_1, rfl, eS_1⟩⟩)
  · skip
    refine lv_ldc (v := (-1000000002)) hx hb C.2.2.2.1 hL2 dX10_seed_4 ?_
    exact q_iret C hM dX10_seed_6 (by exact ⟨⟨rfl, rfl⟩, Or.inl ⟨Int32.not_le.mp c_1, rfl, rfl⟩⟩)

set_option maxHeartbeats 4000000 in
set_option maxRecDepth 100000 in
theorem c_X10_tear (E : qE) (ad : Nat → Nat) (l : Launch) (S A : qA2) (b : qB) : MI E ad l yX10_tear wsX10_tear { frames := 0, cells := 0, slots := 0, locals := 0 } [.ref (ad 0)] S A b (fun r S' A' b' => (A = A' ∧ b = b') ∧ r = S 164 0 + S 171 0 ∧ S' = q2 (q2 S 164 0 0) 171 0 0) := by
  refine MI.of (cc := cX10_tear) (maxL := 2) (ret := some .int) RX10 rfl (by decide) rfl ?_
  intro pg e s m below meth cd C hM
  have hx := C.1
  have hb := C.2.1
  have hts := C.2.2.2.2.1
  have hA : ∀ q, s.heap.size ≤ q → qAr ad s.heap.size q := fun _ h => Or.inr h
  have hi0 : ∀ w ∈ u_ws RX0 TX0 3, w ∈ wsX10_tear := by decide +kernel
  have hi6 : ∀ w ∈ u_ws RX6 TX6 8, w ∈ wsX10_tear := by decide +kernel
  have hi10 : ∀ w ∈ u_ws RX10 TX10 11, w ∈ wsX10_tear := by decide +kernel
  have hL0 := hts (.fieldLink RX10 57 "CrowFences" "sits" "LCrowFences$Sits;") (by decide +kernel)
  have hL1 := hts (.fieldLink RX10 109 "CrowFences$Sits" "count" "I") (by decide +kernel)
  have hL2 := hts (.fieldLink RX10 64 "CrowFences" "book" "LCrowFences$Book;") (by decide +kernel)
  have hL3 := hts (.fieldLink RX10 112 "CrowFences$Book" "count" "I") (by decide +kernel)
  have hl := lv_entry ([.ref (ad 0)]) (n := 2) (Nat.le_of_ble_eq_true rfl)
  rw [lg_entry_eq]
  generalize (lg_sl ([.ref (ad 0)]) ++ List.replicate (2 - (lg_sl ([.ref (ad 0)])).length) Slot.unset).toArray = ls at hl ⊢
  have hl : lv_has ls 2 [(0, .ref (ad 0))] := hl
  refine lv_aload_n hx hb dX10_tear_0 rfl (lv_at hl 0 rfl) ?_
  refine q_get (o := 0) (ci := 10) (k := 7) (T := TX10) (v := .ref (ad 164)) C hM (qmem_10 E ad S A b (show qk 0 = 10 from by decide +kernel)) (by decide) rfl hi10 (by decide) hL0 rfl rfl dX10_tear_1 ?_
  refine q_get (o := 164) (ci := 6) (k := 0) (T := TX6) (v := .int (S 164 0)) C hM (qmem_6 E ad S A b (show qk 164 = 6 from by decide +kernel)) (by decide) rfl hi6 (by decide) hL1 rfl rfl dX10_tear_4 ?_
  refine lv_aload_n hx hb dX10_tear_7 rfl (lv_at hl 0 rfl) ?_
  refine q_get (o := 0) (ci := 10) (k := 8) (T := TX10) (v := .ref (ad 171)) C hM (qmem_10 E ad S A b (show qk 0 = 10 from by decide +kernel)) (by decide) rfl hi10 (by decide) hL2 rfl rfl dX10_tear_8 ?_
  refine q_get (o := 171) (ci := 0) (k := 0) (T := TX0) (v := .int (S 171 0)) C hM (qmem_0 E ad S A b (show qk 171 = 0 from by decide +kernel)) (by decide) rfl hi0 (by decide) hL3 rfl rfl dX10_tear_11 ?_
  refine lv_iadd hx hb dX10_tear_14 ?_
  refine lv_topi (fun x1_1 ex1_1 => ?_)
  refine lv_istore_n (lv' := [(1, .int x1_1), (0, .ref (ad 0))]) hx hb dX10_tear_15 rfl hl (by decide) rfl (fun ls hl => ?_)
  refine lv_aload_n hx hb dX10_tear_16 rfl (lv_at hl 1 rfl) ?_
  refine q_get (o := 0) (ci := 10) (k := 7) (T := TX10) (v := .ref (ad 164)) C hM (qmem_10 E ad S A b (show qk 0 = 10 from by decide +kernel)) (by decide) rfl hi10 (by decide) hL0 rfl rfl dX10_tear_17 ?_
  refine lv_iconst (v := 0) hx hb dX10_tear_20 (by decide) ?_
  refine q_put (o := 164) (ci := 6) (k := 0) (T := TX6) (ty := .int) (v := 0) C hM (qmem_6 E ad S A b (show qk 164 = 6 from by decide +kernel)) (by decide) rfl hi6 tyX6 tyX6_ok nmX6 (by decide) hL1 rfl rfl (by decide +kernel) rfl rfl (Nat.le_of_ble_eq_true rfl) (qs_6_0 E ad S A b (show qk 164 = 6 from by decide +kernel) 0) dX10_tear_21 (fun H locs hM => ?_)
  obtain ⟨S_2, eS_2⟩ : ∃ zz, zz = q2 S 164 0 0 := ⟨_, rfl⟩
  rw [← eS_2] at hM
  refine lv_aload_n hx hb dX10_tear_24 rfl (lv_at hl 1 rfl) ?_
  refine q_get (o := 0) (ci := 10) (k := 8) (T := TX10) (v := .ref (ad 171)) C hM (qmem_10 E ad S_2 A b (show qk 0 = 10 from by decide +kernel)) (by decide) rfl hi10 (by decide) hL2 rfl rfl dX10_tear_25 ?_
  refine lv_iconst (v := 0) hx hb dX10_tear_28 (by decide) ?_
  refine q_put (o := 171) (ci := 0) (k := 0) (T := TX0) (ty := .int) (v := 0) C hM (qmem_0 E ad S_2 A b (show qk 171 = 0 from by decide +kernel)) (by decide) rfl hi0 tyX0 tyX0_ok nmX0 (by decide) hL3 rfl rfl (by decide +kernel) rfl rfl (Nat.le_of_ble_eq_true rfl) (qs_0_0 E ad S_2 A b (show qk 171 = 0 from by decide +kernel) 0) dX10_tear_29 (fun H locs hM => ?_)
  obtain ⟨S_3, eS_3⟩ : ∃ zz, zz = q2 S_2 171 0 0 := ⟨_, rfl⟩
  rw [← eS_3] at hM
  refine lv_iload_n hx hb dX10_tear_32 rfl (lv_at hl 0 rfl) ?_
  exact q_iret C hM dX10_tear_33 (by exact ⟨⟨rfl, rfl⟩, ex1_1, by subst_vars; rfl⟩)

set_option maxHeartbeats 4000000 in
set_option maxRecDepth 100000 in
theorem c_X10_feed (E : qE) (ad : Nat → Nat) (l : Launch) (S A : qA2) (b : qB) (a1 : Int32) (n : Nat) (hln : S 1 1 = nI n) (hnb : n ≤ 240) : MI E ad l yX10_feed wsX10_feed { frames := 1, cells := 0, slots := 0, locals := 22 } [.ref (ad 0), .int a1] S A b (fun r S' A' b' => b = b' ∧ ((¬ (qir a1 0 255).elim (-1000000002) (fun _ => if n < 240 then 0 else (-1000000004)) = 0 ∧ r = (qir a1 0 255).elim (-1000000002) (fun _ => if n < 240 then 0 else (-1000000004)) ∧ S = S' ∧ A = A') ∨ ((qir a1 0 255).elim (-1000000002) (fun _ => if n < 240 then 0 else (-1000000004)) = 0 ∧ ∃ k, k ≤ 255 ∧ a1 = nI k ∧ r = nI (n + 1) ∧ S' = q2 S 1 1 (nI (n + 1)) ∧ A' = q2 A 2 n (nI k)))) := by
  refine MI.of (cc := cX10_feed) (maxL := 2) (ret := some .int) RX10 rfl (by decide) rfl ?_
  intro pg e s m below meth cd C hM
  have hx := C.1
  have hb := C.2.1
  have hts := C.2.2.2.2.1
  have hA : ∀ q, s.heap.size ≤ q → qAr ad s.heap.size q := fun _ h => Or.inr h
  have hi7 : ∀ w ∈ u_ws RX7 TX7 6, w ∈ wsX10_feed := by decide +kernel
  have hi10 : ∀ w ∈ u_ws RX10 TX10 11, w ∈ wsX10_feed := by decide +kernel
  have hL0 := hts (.fieldLink RX10 10 "CrowFences" "text" "LCrowFences$Text;") (by decide +kernel)
  have hL1 := hts (.fieldLink RX10 87 "CrowFences$Text" "length" "I") (by decide +kernel)
  have hL2 := hts (.constant RX10 91 (-1000000004)) (by decide +kernel)
  have hL3 := hts (.constant RX10 86 (-1000000002)) (by decide +kernel)
  have hl := lv_entry ([.ref (ad 0), .int a1]) (n := 2) (Nat.le_of_ble_eq_true rfl)
  rw [lg_entry_eq]
  generalize (lg_sl ([.ref (ad 0), .int a1]) ++ List.replicate (2 - (lg_sl ([.ref (ad 0), .int a1])).length) Slot.unset).toArray = ls at hl ⊢
  have hl : lv_has ls 2 [(0, .ref (ad 0)), (1, .int a1)] := hl
  refine lv_iload_n hx hb dX10_feed_0 rfl (lv_at hl 1 rfl) ?_
  refine lv_iconst (v := 0) hx hb dX10_feed_1 (by decide) ?_
  refine lv_sipush (v := 255) hx hb dX10_feed_2 (by decide) ?_
  refine q_callSI (n := 3) (As := [.int a1, .int 0, .int 255]) (rest := []) C hM hA (c_X10_within E ad l S A b a1 0 255) gX10_feed_X10_within rfl rfl rfl (by decide +kernel) ⟨Nat.le_of_ble_eq_true rfl, Nat.le_of_ble_eq_true rfl⟩ rfl hl.1 rfl (Nat.le_of_ble_eq_true rfl) ⟨Nat.zero_le _, Nat.zero_le _⟩ dX10_feed_5 (fun r_1 S_2 A_3 b_4 H locs qr_1 hM => ?_)
  obtain ⟨⟨e1, e2, e3⟩, er_1⟩ := qr_1
  subst e1; subst e2; subst e3
  rcases q01_cases (0 ≤ a1 ∧ a1 ≤ 255) with ⟨hzr_1, hir_1⟩ | ⟨hzr_1, hir_1⟩
  · skip
    rw [hzr_1] at er_1
    subst er_1
    obtain ⟨ka1, hloka1, hhika1, eka1⟩ := qin_of (l := 0) (h := 255) rfl rfl (by omega) (by omega) hir_1
    subst eka1
    refine lv_if_ne (tgt := 14) hx hb dX10_feed_8 (by decide) (fun c_8 => ?_) (fun c_8 => ?_)
    · skip
      have c_8 : ¬ (1 = 0) := fun z => c_8 ((nI_eq (a := 1) (b := 0) (by omega) (by omega)).mpr z)
      refine lv_aload_n hx hb dX10_feed_14 rfl (lv_at hl 0 rfl) ?_
      refine q_get (o := 0) (ci := 10) (k := 0) (T := TX10) (v := .ref (ad 1)) C hM (qmem_10 E ad S A b (show qk 0 = 10 from by decide +kernel)) (by decide) rfl hi10 (by decide) hL0 rfl rfl dX10_feed_15 ?_
      refine q_get (o := 1) (ci := 7) (k := 1) (T := TX7) (v := .int (S 1 1)) C hM (qmem_7 E ad S A b (show qk 1 = 7 from by decide +kernel)) (by decide) rfl hi7 (by decide) hL1 rfl rfl dX10_feed_18 ?_
      refine lv_as (y := nI n) hln ?_
      refine lv_sipush (v := 240) hx hb dX10_feed_21 (by decide) ?_
      refine lv_icmp_lt (tgt := 30) hx hb dX10_feed_24 (by decide) (fun c_24 => ?_) (fun c_24 => ?_)
      · skip
        have c_24 : n < 240 := (nI_ltI (a := n) (b := 240) (by omega) (by omega)).mp c_24
        refine lv_aload_n hx hb dX10_feed_30 rfl (lv_at hl 0 rfl) ?_
        refine q_get (o := 0) (ci := 10) (k := 0) (T := TX10) (v := .ref (ad 1)) C hM (qmem_10 E ad S A b (show qk 0 = 10 from by decide +kernel)) (by decide) rfl hi10 (by decide) hL0 rfl rfl dX10_feed_31 ?_
        refine lv_iload_n hx hb dX10_feed_34 rfl (lv_at hl 1 rfl) ?_
        refine q_callVV (n := 1) (o := 1) (As := [.int (nI ka1)]) (rest := []) C hM hA (c_X7_append E ad l S A b (nI ka1) n hln (by omega)) (qmem_7 E ad S A b (show qk 1 = 7 from by decide +kernel)) (by decide) rfl gX10_feed_X7_append rfl rfl rfl (by decide +kernel) ⟨Nat.le_of_ble_eq_true rfl, Nat.le_of_ble_eq_true rfl⟩ rfl hl.1 rfl (Nat.le_of_ble_eq_true rfl) ⟨Nat.zero_le _, Nat.zero_le _⟩ dX10_feed_35 (fun S_6 A_7 b_8 H locs qr_5 hM => ?_)
        obtain ⟨eS_6, eA_7, e3⟩ := qr_5
        subst e3
        refine lv_aload_n hx hb dX10_feed_38 rfl (lv_at hl 0 rfl) ?_
        refine q_get (o := 0) (ci := 10) (k := 0) (T := TX10) (v := .ref (ad 1)) C hM (qmem_10 E ad S_6 A_7 b (show qk 0 = 10 from by decide +kernel)) (by decide) rfl hi10 (by decide) hL0 rfl rfl dX10_feed_39 ?_
        refine q_get (o := 1) (ci := 7) (k := 1) (T := TX7) (v := .int (S_6 1 1)) C hM (qmem_7 E ad S_6 A_7 b (show qk 1 = 7 from by decide +kernel)) (by decide) rfl hi7 (by decide) hL1 rfl rfl dX10_feed_42 ?_
        exact q_iret C hM dX10_feed_45 (by rw [qir_in hloka1 hhika1 (by omega)]; dsimp only [Option.elim]; exact ⟨rfl, Or.inr ⟨by rw [if_pos c_24], ka1, hhika1, rfl, by rw [eS_6, q2_s], eS_6, eA_7⟩⟩)
      · skip
        have c_24 : ¬ (n < 240) := fun z => c_24 ((nI_ltI (a := n) (b := 240) (by omega) (by omega)).mpr z)
        refine lv_ldc (v := (-1000000004)) hx hb C.2.2.2.1 hL2 dX10_feed_27 ?_
        exact q_iret C hM dX10_feed_29 (by rw [qir_in hloka1 hhika1 (by omega)]; dsimp only [Option.elim]; exact ⟨rfl, Or.inl ⟨by rw [if_neg c_24]; decide, by rw [if_neg c_24], rfl, rfl⟩⟩)
    · skip
      have c_8 : 1 = 0 := (nI_eq (a := 1) (b := 0) (by omega) (by omega)).mp c_8
      exact absurd c_8 (by decide)
  · skip
    rw [hzr_1] at er_1
    subst er_1
    refine lv_if_ne (tgt := 14) hx hb dX10_feed_8 (by decide) (fun c_8 => ?_) (fun c_8 => ?_)
    · skip
      have c_8 : ¬ (0 = 0) := fun z => c_8 ((nI_eq (a := 0) (b := 0) (by omega) (by omega)).mpr z)
      exact absurd rfl c_8
    · skip
      have c_8 : 0 = 0 := (nI_eq (a := 0) (b := 0) (by omega) (by omega)).mp c_8
      refine lv_ldc (v := (-1000000002)) hx hb C.2.2.2.1 hL3 dX10_feed_11 ?_
      exact q_iret C hM dX10_feed_13 (by rw [qir_out hir_1]; dsimp only [Option.elim]; exact ⟨rfl, Or.inl ⟨by decide, rfl, rfl, rfl⟩⟩)

set_option maxHeartbeats 4000000 in
set_option maxRecDepth 100000 in
theorem c_X10_see (E : qE) (ad : Nat → Nat) (l : Launch) (S A : qA2) (b : qB) (p : Nat) (hp : qpl p) (hbp : b.1 = p) (a1 a2 : Int32) (nP : Nat) (hPo : S p 4 = nI nP) (hPb : nP ≤ 6) (nK : Nat) (hK : S p 5 = nI nK) (hKb : nK ≤ 5) (nS : Nat) (hS : S 164 0 = nI nS) (hSb : nS ≤ 6) : MI E ad l yX10_see wsX10_see { frames := 2, cells := 0, slots := 0, locals := 43 } [.ref (ad 0), .int a1, .int a2] S A b (fun r S' A' b' => b = b' ∧ ((¬ (qix a1 nK).elim (-1000000001) (fun _ => (qix a2 nP).elim (-1000000001) (fun _ => if nS < 6 then 0 else (-1000000004))) = 0 ∧ r = (qix a1 nK).elim (-1000000001) (fun _ => (qix a2 nP).elim (-1000000001) (fun _ => if nS < 6 then 0 else (-1000000004))) ∧ S = S' ∧ A = A') ∨ ((qix a1 nK).elim (-1000000001) (fun _ => (qix a2 nP).elim (-1000000001) (fun _ => if nS < 6 then 0 else (-1000000004))) = 0 ∧ ∃ c k, c < nK ∧ k < nP ∧ a1 = nI c ∧ a2 = nI k ∧ r = nI (nS + 1) ∧ S' = q2 S 164 0 (nI (nS + 1)) ∧ A' = q2 (q2 A 165 nS (nI c)) 166 nS (nI k)))) := by
  obtain ⟨⟨kp, kp1, kp2, kp3, kp4, kp5, kp6⟩, ⟨lp1, lp2, lp3, lp4, lp5, lp6⟩, bp, bp7⟩ := qpl_all hp
  refine MI.of (cc := cX10_see) (maxL := 3) (ret := some .int) RX10 rfl (by decide) rfl ?_
  intro pg e s m below meth cd C hM
  have hx := C.1
  have hb := C.2.1
  have hts := C.2.2.2.2.1
  have hA : ∀ q, s.heap.size ≤ q → qAr ad s.heap.size q := fun _ h => Or.inr h
  have hi6 : ∀ w ∈ u_ws RX6 TX6 8, w ∈ wsX10_see := by decide +kernel
  have hi10 : ∀ w ∈ u_ws RX10 TX10 11, w ∈ wsX10_see := by decide +kernel
  have hL0 := hts (.fieldLink RX10 57 "CrowFences" "sits" "LCrowFences$Sits;") (by decide +kernel)
  have hL1 := hts (.fieldLink RX10 109 "CrowFences$Sits" "count" "I") (by decide +kernel)
  have hL2 := hts (.constant RX10 91 (-1000000004)) (by decide +kernel)
  have hL3 := hts (.constant RX10 160 (-1000000001)) (by decide +kernel)
  have hl := lv_entry ([.ref (ad 0), .int a1, .int a2]) (n := 3) (Nat.le_of_ble_eq_true rfl)
  rw [lg_entry_eq]
  generalize (lg_sl ([.ref (ad 0), .int a1, .int a2]) ++ List.replicate (3 - (lg_sl ([.ref (ad 0), .int a1, .int a2])).length) Slot.unset).toArray = ls at hl ⊢
  have hl : lv_has ls 3 [(0, .ref (ad 0)), (1, .int a1), (2, .int a2)] := hl
  refine lv_aload_n hx hb dX10_see_0 rfl (lv_at hl 0 rfl) ?_
  refine lv_iload_n hx hb dX10_see_1 rfl (lv_at hl 1 rfl) ?_
  refine q_callVI (n := 1) (o := 0) (As := [.int a1]) (rest := []) C hM hA (c_X10_isCrow E ad l S A b p hp hbp a1 nK hK (by omega)) (qmem_10 E ad S A b (show qk 0 = 10 from by decide +kernel)) (by decide) rfl gX10_see_X10_isCrow rfl rfl rfl (by decide +kernel) ⟨Nat.le_of_ble_eq_true rfl, Nat.le_of_ble_eq_true rfl⟩ rfl hl.1 rfl (Nat.le_of_ble_eq_true rfl) ⟨Nat.zero_le _, Nat.zero_le _⟩ dX10_see_2 (fun r_1 S_2 A_3 b_4 H locs qr_1 hM => ?_)
  obtain ⟨⟨e1, e2, e3⟩, hDr_1⟩ := qr_1
  subst e1; subst e2; subst e3
  rcases hDr_1 with ⟨er_1, ka1, hka1, eka1⟩ | ⟨er_1, hnoa1⟩
  · skip
    subst er_1
    subst eka1
    refine lv_if_eq (tgt := 16) hx hb dX10_see_5 (by decide) (fun c_5 => ?_) (fun c_5 => ?_)
    · skip
      have c_5 : 1 = 0 := (nI_eq (a := 1) (b := 0) (by omega) (by omega)).mp c_5
      exact absurd c_5 (by decide)
    · skip
      have c_5 : ¬ (1 = 0) := fun z => c_5 ((nI_eq (a := 1) (b := 0) (by omega) (by omega)).mpr z)
      refine lv_aload_n hx hb dX10_see_8 rfl (lv_at hl 0 rfl) ?_
      refine lv_iload_n hx hb dX10_see_9 rfl (lv_at hl 2 rfl) ?_
      refine q_callVI (n := 1) (o := 0) (As := [.int a2]) (rest := []) C hM hA (c_X10_isPost E ad l S A b p hp hbp a2 nP hPo (by omega)) (qmem_10 E ad S A b (show qk 0 = 10 from by decide +kernel)) (by decide) rfl gX10_see_X10_isPost rfl rfl rfl (by decide +kernel) ⟨Nat.le_of_ble_eq_true rfl, Nat.le_of_ble_eq_true rfl⟩ rfl hl.1 rfl (Nat.le_of_ble_eq_true rfl) ⟨Nat.zero_le _, Nat.zero_le _⟩ dX10_see_10 (fun r_5 S_6 A_7 b_8 H locs qr_5 hM => ?_)
      obtain ⟨⟨e1, e2, e3⟩, hDr_5⟩ := qr_5
      subst e1; subst e2; subst e3
      rcases hDr_5 with ⟨er_5, ka2, hka2, eka2⟩ | ⟨er_5, hnoa2⟩
      · skip
        subst er_5
        subst eka2
        refine lv_if_ne (tgt := 19) hx hb dX10_see_13 (by decide) (fun c_13 => ?_) (fun c_13 => ?_)
        · skip
          have c_13 : ¬ (1 = 0) := fun z => c_13 ((nI_eq (a := 1) (b := 0) (by omega) (by omega)).mpr z)
          refine lv_aload_n hx hb dX10_see_19 rfl (lv_at hl 0 rfl) ?_
          refine q_get (o := 0) (ci := 10) (k := 7) (T := TX10) (v := .ref (ad 164)) C hM (qmem_10 E ad S A b (show qk 0 = 10 from by decide +kernel)) (by decide) rfl hi10 (by decide) hL0 rfl rfl dX10_see_20 ?_
          refine q_get (o := 164) (ci := 6) (k := 0) (T := TX6) (v := .int (S 164 0)) C hM (qmem_6 E ad S A b (show qk 164 = 6 from by decide +kernel)) (by decide) rfl hi6 (by decide) hL1 rfl rfl dX10_see_23 ?_
          refine lv_as (y := nI nS) hS ?_
          refine lv_bipush (v := 6) hx hb dX10_see_26 (by decide) ?_
          refine lv_icmp_lt (tgt := 34) hx hb dX10_see_28 (by decide) (fun c_28 => ?_) (fun c_28 => ?_)
          · skip
            have c_28 : nS < 6 := (nI_ltI (a := nS) (b := 6) (by omega) (by omega)).mp c_28
            refine lv_aload_n hx hb dX10_see_34 rfl (lv_at hl 0 rfl) ?_
            refine q_get (o := 0) (ci := 10) (k := 7) (T := TX10) (v := .ref (ad 164)) C hM (qmem_10 E ad S A b (show qk 0 = 10 from by decide +kernel)) (by decide) rfl hi10 (by decide) hL0 rfl rfl dX10_see_35 ?_
            refine lv_iload_n hx hb dX10_see_38 rfl (lv_at hl 1 rfl) ?_
            refine lv_iload_n hx hb dX10_see_39 rfl (lv_at hl 2 rfl) ?_
            refine q_callVV (n := 2) (o := 164) (As := [.int (nI ka1), .int (nI ka2)]) (rest := []) C hM hA (c_X6_note E ad l S A b (nI ka1) (nI ka2) nS hS (by omega)) (qmem_6 E ad S A b (show qk 164 = 6 from by decide +kernel)) (by decide) rfl gX10_see_X6_note rfl rfl rfl (by decide +kernel) ⟨Nat.le_of_ble_eq_true rfl, Nat.le_of_ble_eq_true rfl⟩ rfl hl.1 rfl (Nat.le_of_ble_eq_true rfl) ⟨Nat.zero_le _, Nat.zero_le _⟩ dX10_see_40 (fun S_10 A_11 b_12 H locs qr_9 hM => ?_)
            obtain ⟨eS_10, eA_11, e3⟩ := qr_9
            subst e3
            refine lv_aload_n hx hb dX10_see_43 rfl (lv_at hl 0 rfl) ?_
            refine q_get (o := 0) (ci := 10) (k := 7) (T := TX10) (v := .ref (ad 164)) C hM (qmem_10 E ad S_10 A_11 b (show qk 0 = 10 from by decide +kernel)) (by decide) rfl hi10 (by decide) hL0 rfl rfl dX10_see_44 ?_
            refine q_get (o := 164) (ci := 6) (k := 0) (T := TX6) (v := .int (S_10 164 0)) C hM (qmem_6 E ad S_10 A_11 b (show qk 164 = 6 from by decide +kernel)) (by decide) rfl hi6 (by decide) hL1 rfl rfl dX10_see_47 ?_
            exact q_iret C hM dX10_see_50 (by rw [qix_in hka1 (by omega)]; dsimp only [Option.elim]; rw [qix_in hka2 (by omega)]; dsimp only [Option.elim]; exact ⟨rfl, Or.inr ⟨by rw [if_pos c_28], ka1, ka2, hka1, hka2, rfl, rfl, by rw [eS_10, q2_s], eS_10, eA_11⟩⟩)
          · skip
            have c_28 : ¬ (nS < 6) := fun z => c_28 ((nI_ltI (a := nS) (b := 6) (by omega) (by omega)).mpr z)
            refine lv_ldc (v := (-1000000004)) hx hb C.2.2.2.1 hL2 dX10_see_31 ?_
            exact q_iret C hM dX10_see_33 (by rw [qix_in hka1 (by omega)]; dsimp only [Option.elim]; rw [qix_in hka2 (by omega)]; dsimp only [Option.elim]; exact ⟨rfl, Or.inl ⟨by rw [if_neg c_28]; decide, by rw [if_neg c_28], rfl, rfl⟩⟩)
        · skip
          have c_13 : 1 = 0 := (nI_eq (a := 1) (b := 0) (by omega) (by omega)).mp c_13
          exact absurd c_13 (by decide)
      · skip
        subst er_5
        refine lv_if_ne (tgt := 19) hx hb dX10_see_13 (by decide) (fun c_13 => ?_) (fun c_13 => ?_)
        · skip
          have c_13 : ¬ (0 = 0) := fun z => c_13 ((nI_eq (a := 0) (b := 0) (by omega) (by omega)).mpr z)
          exact absurd rfl c_13
        · skip
          have c_13 : 0 = 0 := (nI_eq (a := 0) (b := 0) (by omega) (by omega)).mp c_13
          refine lv_ldc (v := (-1000000001)) hx hb C.2.2.2.1 hL3 dX10_see_16 ?_
          exact q_iret C hM dX10_see_18 (by rw [qix_in hka1 (by omega)]; dsimp only [Option.elim]; rw [qix_out (by omega) hnoa2]; dsimp only [Option.elim]; exact ⟨rfl, Or.inl ⟨by decide, rfl, rfl, rfl⟩⟩)
  · skip
    subst er_1
    refine lv_if_eq (tgt := 16) hx hb dX10_see_5 (by decide) (fun c_5 => ?_) (fun c_5 => ?_)
    · skip
      have c_5 : 0 = 0 := (nI_eq (a := 0) (b := 0) (by omega) (by omega)).mp c_5
      refine lv_ldc (v := (-1000000001)) hx hb C.2.2.2.1 hL3 dX10_see_16 ?_
      exact q_iret C hM dX10_see_18 (by rw [qix_out (by omega) hnoa1]; dsimp only [Option.elim]; exact ⟨rfl, Or.inl ⟨by decide, rfl, rfl, rfl⟩⟩)
    · skip
      have c_5 : ¬ (0 = 0) := fun z => c_5 ((nI_eq (a := 0) (b := 0) (by omega) (by omega)).mpr z)
      exact absurd rfl c_5

set_option maxHeartbeats 4000000 in
set_option maxRecDepth 100000 in
theorem c_X10_write (E : qE) (ad : Nat → Nat) (l : Launch) (S A : qA2) (b : qB) (p : Nat) (hp : qpl p) (hbp : b.1 = p) (a1 a2 : Int32) (nC : Nat) (hC : S p 0 = nI nC) (hCb : nC ≤ 12) (nB : Nat) (hN : S 171 0 = nI nB) (hNb : nB ≤ 15) : MI E ad l yX10_write wsX10_write { frames := 2, cells := 0, slots := 0, locals := 43 } [.ref (ad 0), .int a1, .int a2] S A b (fun r S' A' b' => b = b' ∧ ((¬ (qix a1 nC).elim (-1000000001) (fun _ => (qir a2 0 9999).elim (-1000000002) (fun _ => if nB < 15 then 0 else (-1000000004))) = 0 ∧ r = (qix a1 nC).elim (-1000000001) (fun _ => (qir a2 0 9999).elim (-1000000002) (fun _ => if nB < 15 then 0 else (-1000000004))) ∧ S = S' ∧ A = A') ∨ ((qix a1 nC).elim (-1000000001) (fun _ => (qir a2 0 9999).elim (-1000000002) (fun _ => if nB < 15 then 0 else (-1000000004))) = 0 ∧ ∃ c k, c < nC ∧ k ≤ 9999 ∧ a1 = nI c ∧ a2 = nI k ∧ r = nI (nB + 1) ∧ S' = q2 S 171 0 (nI (nB + 1)) ∧ A' = q2 (q2 A 172 nB (nI c)) 173 nB (nI k)))) := by
  obtain ⟨⟨kp, kp1, kp2, kp3, kp4, kp5, kp6⟩, ⟨lp1, lp2, lp3, lp4, lp5, lp6⟩, bp, bp7⟩ := qpl_all hp
  refine MI.of (cc := cX10_write) (maxL := 3) (ret := some .int) RX10 rfl (by decide) rfl ?_
  intro pg e s m below meth cd C hM
  have hx := C.1
  have hb := C.2.1
  have hts := C.2.2.2.2.1
  have hA : ∀ q, s.heap.size ≤ q → qAr ad s.heap.size q := fun _ h => Or.inr h
  have hi0 : ∀ w ∈ u_ws RX0 TX0 3, w ∈ wsX10_write := by decide +kernel
  have hi10 : ∀ w ∈ u_ws RX10 TX10 11, w ∈ wsX10_write := by decide +kernel
  have hL0 := hts (.fieldLink RX10 64 "CrowFences" "book" "LCrowFences$Book;") (by decide +kernel)
  have hL1 := hts (.fieldLink RX10 112 "CrowFences$Book" "count" "I") (by decide +kernel)
  have hL2 := hts (.constant RX10 91 (-1000000004)) (by decide +kernel)
  have hL3 := hts (.constant RX10 86 (-1000000002)) (by decide +kernel)
  have hL4 := hts (.constant RX10 160 (-1000000001)) (by decide +kernel)
  have hl := lv_entry ([.ref (ad 0), .int a1, .int a2]) (n := 3) (Nat.le_of_ble_eq_true rfl)
  rw [lg_entry_eq]
  generalize (lg_sl ([.ref (ad 0), .int a1, .int a2]) ++ List.replicate (3 - (lg_sl ([.ref (ad 0), .int a1, .int a2])).length) Slot.unset).toArray = ls at hl ⊢
  have hl : lv_has ls 3 [(0, .ref (ad 0)), (1, .int a1), (2, .int a2)] := hl
  refine lv_aload_n hx hb dX10_write_0 rfl (lv_at hl 0 rfl) ?_
  refine lv_iload_n hx hb dX10_write_1 rfl (lv_at hl 1 rfl) ?_
  refine q_callVI (n := 1) (o := 0) (As := [.int a1]) (rest := []) C hM hA (c_X10_isCell E ad l S A b p hp hbp a1 nC hC (by omega)) (qmem_10 E ad S A b (show qk 0 = 10 from by decide +kernel)) (by decide) rfl gX10_write_X10_isCell rfl rfl rfl (by decide +kernel) ⟨Nat.le_of_ble_eq_true rfl, Nat.le_of_ble_eq_true rfl⟩ rfl hl.1 rfl (Nat.le_of_ble_eq_true rfl) ⟨Nat.zero_le _, Nat.zero_le _⟩ dX10_write_2 (fun r_1 S_2 A_3 b_4 H locs qr_1 hM => ?_)
  obtain ⟨⟨e1, e2, e3⟩, hDr_1⟩ := qr_1
  subst e1; subst e2; subst e3
  rcases hDr_1 with ⟨er_1, ka1, hka1, eka1⟩ | ⟨er_1, hnoa1⟩
  · skip
    subst er_1
    subst eka1
    refine lv_if_ne (tgt := 11) hx hb dX10_write_5 (by decide) (fun c_5 => ?_) (fun c_5 => ?_)
    · skip
      have c_5 : ¬ (1 = 0) := fun z => c_5 ((nI_eq (a := 1) (b := 0) (by omega) (by omega)).mpr z)
      refine lv_iload_n hx hb dX10_write_11 rfl (lv_at hl 2 rfl) ?_
      refine lv_iconst (v := 0) hx hb dX10_write_12 (by decide) ?_
      refine lv_sipush (v := 9999) hx hb dX10_write_13 (by decide) ?_
      refine q_callSI (n := 3) (As := [.int a2, .int 0, .int 9999]) (rest := []) C hM hA (c_X10_within E ad l S A b a2 0 9999) gX10_write_X10_within rfl rfl rfl (by decide +kernel) ⟨Nat.le_of_ble_eq_true rfl, Nat.le_of_ble_eq_true rfl⟩ rfl hl.1 rfl (Nat.le_of_ble_eq_true rfl) ⟨Nat.zero_le _, Nat.zero_le _⟩ dX10_write_16 (fun r_5 S_6 A_7 b_8 H locs qr_5 hM => ?_)
      obtain ⟨⟨e1, e2, e3⟩, er_5⟩ := qr_5
      subst e1; subst e2; subst e3
      rcases q01_cases (0 ≤ a2 ∧ a2 ≤ 9999) with ⟨hzr_5, hir_5⟩ | ⟨hzr_5, hir_5⟩
      · skip
        rw [hzr_5] at er_5
        subst er_5
        obtain ⟨ka2, hloka2, hhika2, eka2⟩ := qin_of (l := 0) (h := 9999) rfl rfl (by omega) (by omega) hir_5
        subst eka2
        refine lv_if_ne (tgt := 25) hx hb dX10_write_19 (by decide) (fun c_19 => ?_) (fun c_19 => ?_)
        · skip
          have c_19 : ¬ (1 = 0) := fun z => c_19 ((nI_eq (a := 1) (b := 0) (by omega) (by omega)).mpr z)
          refine lv_aload_n hx hb dX10_write_25 rfl (lv_at hl 0 rfl) ?_
          refine q_get (o := 0) (ci := 10) (k := 8) (T := TX10) (v := .ref (ad 171)) C hM (qmem_10 E ad S A b (show qk 0 = 10 from by decide +kernel)) (by decide) rfl hi10 (by decide) hL0 rfl rfl dX10_write_26 ?_
          refine q_get (o := 171) (ci := 0) (k := 0) (T := TX0) (v := .int (S 171 0)) C hM (qmem_0 E ad S A b (show qk 171 = 0 from by decide +kernel)) (by decide) rfl hi0 (by decide) hL1 rfl rfl dX10_write_29 ?_
          refine lv_as (y := nI nB) hN ?_
          refine lv_bipush (v := 15) hx hb dX10_write_32 (by decide) ?_
          refine lv_icmp_lt (tgt := 40) hx hb dX10_write_34 (by decide) (fun c_34 => ?_) (fun c_34 => ?_)
          · skip
            have c_34 : nB < 15 := (nI_ltI (a := nB) (b := 15) (by omega) (by omega)).mp c_34
            refine lv_aload_n hx hb dX10_write_40 rfl (lv_at hl 0 rfl) ?_
            refine q_get (o := 0) (ci := 10) (k := 8) (T := TX10) (v := .ref (ad 171)) C hM (qmem_10 E ad S A b (show qk 0 = 10 from by decide +kernel)) (by decide) rfl hi10 (by decide) hL0 rfl rfl dX10_write_41 ?_
            refine lv_iload_n hx hb dX10_write_44 rfl (lv_at hl 1 rfl) ?_
            refine lv_iload_n hx hb dX10_write_45 rfl (lv_at hl 2 rfl) ?_
            refine q_callVV (n := 2) (o := 171) (As := [.int (nI ka1), .int (nI ka2)]) (rest := []) C hM hA (c_X0_enter E ad l S A b (nI ka1) (nI ka2) nB hN (by omega)) (qmem_0 E ad S A b (show qk 171 = 0 from by decide +kernel)) (by decide) rfl gX10_write_X0_enter rfl rfl rfl (by decide +kernel) ⟨Nat.le_of_ble_eq_true rfl, Nat.le_of_ble_eq_true rfl⟩ rfl hl.1 rfl (Nat.le_of_ble_eq_true rfl) ⟨Nat.zero_le _, Nat.zero_le _⟩ dX10_write_46 (fun S_10 A_11 b_12 H locs qr_9 hM => ?_)
            obtain ⟨eS_10, eA_11, e3⟩ := qr_9
            subst e3
            refine lv_aload_n hx hb dX10_write_49 rfl (lv_at hl 0 rfl) ?_
            refine q_get (o := 0) (ci := 10) (k := 8) (T := TX10) (v := .ref (ad 171)) C hM (qmem_10 E ad S_10 A_11 b (show qk 0 = 10 from by decide +kernel)) (by decide) rfl hi10 (by decide) hL0 rfl rfl dX10_write_50 ?_
            refine q_get (o := 171) (ci := 0) (k := 0) (T := TX0) (v := .int (S_10 171 0)) C hM (qmem_0 E ad S_10 A_11 b (show qk 171 = 0 from by decide +kernel)) (by decide) rfl hi0 (by decide) hL1 rfl rfl dX10_write_53 ?_
            exact q_iret C hM dX10_write_56 (by rw [qix_in hka1 (by omega)]; dsimp only [Option.elim]; rw [qir_in hloka2 hhika2 (by omega)]; dsimp only [Option.elim]; exact ⟨rfl, Or.inr ⟨by rw [if_pos c_34], ka1, ka2, hka1, hhika2, rfl, rfl, by rw [eS_10, q2_s], eS_10, eA_11⟩⟩)
          · skip
            have c_34 : ¬ (nB < 15) := fun z => c_34 ((nI_ltI (a := nB) (b := 15) (by omega) (by omega)).mpr z)
            refine lv_ldc (v := (-1000000004)) hx hb C.2.2.2.1 hL2 dX10_write_37 ?_
            exact q_iret C hM dX10_write_39 (by rw [qix_in hka1 (by omega)]; dsimp only [Option.elim]; rw [qir_in hloka2 hhika2 (by omega)]; dsimp only [Option.elim]; exact ⟨rfl, Or.inl ⟨by rw [if_neg c_34]; decide, by rw [if_neg c_34], rfl, rfl⟩⟩)
        · skip
          have c_19 : 1 = 0 := (nI_eq (a := 1) (b := 0) (by omega) (by omega)).mp c_19
          exact absurd c_19 (by decide)
      · skip
        rw [hzr_5] at er_5
        subst er_5
        refine lv_if_ne (tgt := 25) hx hb dX10_write_19 (by decide) (fun c_19 => ?_) (fun c_19 => ?_)
        · skip
          have c_19 : ¬ (0 = 0) := fun z => c_19 ((nI_eq (a := 0) (b := 0) (by omega) (by omega)).mpr z)
          exact absurd rfl c_19
        · skip
          have c_19 : 0 = 0 := (nI_eq (a := 0) (b := 0) (by omega) (by omega)).mp c_19
          refine lv_ldc (v := (-1000000002)) hx hb C.2.2.2.1 hL3 dX10_write_22 ?_
          exact q_iret C hM dX10_write_24 (by rw [qix_in hka1 (by omega)]; dsimp only [Option.elim]; rw [qir_out hir_5]; dsimp only [Option.elim]; exact ⟨rfl, Or.inl ⟨by decide, rfl, rfl, rfl⟩⟩)
    · skip
      have c_5 : 1 = 0 := (nI_eq (a := 1) (b := 0) (by omega) (by omega)).mp c_5
      exact absurd c_5 (by decide)
  · skip
    subst er_1
    refine lv_if_ne (tgt := 11) hx hb dX10_write_5 (by decide) (fun c_5 => ?_) (fun c_5 => ?_)
    · skip
      have c_5 : ¬ (0 = 0) := fun z => c_5 ((nI_eq (a := 0) (b := 0) (by omega) (by omega)).mpr z)
      exact absurd rfl c_5
    · skip
      have c_5 : 0 = 0 := (nI_eq (a := 0) (b := 0) (by omega) (by omega)).mp c_5
      refine lv_ldc (v := (-1000000001)) hx hb C.2.2.2.1 hL4 dX10_write_8 ?_
      exact q_iret C hM dX10_write_10 (by rw [qix_out (by omega) hnoa1]; dsimp only [Option.elim]; exact ⟨rfl, Or.inl ⟨by decide, rfl, rfl, rfl⟩⟩)
