abbrev rm_M_place : Room := { frames := 1, cells := 0, slots := 0, locals := 21 }
set_option maxRecDepth 20000 in
set_option maxHeartbeats 4000000 in
theorem c_M_place (l : Launch) (X : Xt) (G : Gr) (A : St) (x : Int32) (hI : Inv A) : Met l y_M_place (Cond.code y_M_place b_M_place 2 (some .int) :: WA) rm_M_place (va_Pc [.ref (rA_ad G 0), .int x] (fun U => QR X G A U.heap ∧ KK X U)) (vp_Si (fun ans => ans = placeF A x)) 0 0 (fun _ => False) := by
  refine vx_met (cc := b_M_place) (maxL := 2) (ret := (some .int)) (by decide) rfl (Nat.le_of_ble_eq_true rfl) ?_
  intro p e s m below meth c ls hx hb hrt hts hown hlocks hname hml hB hl
  obtain ⟨hP, hK⟩ := hB
  have hown : s.vm.findClass R_Model = some m.cls := hown
  have hl : lv_has ls 2 [(0, .ref (rA_ad G 0)), (1, .int x)] := hl
  have hP : va_P X.1 classes (rw_ X G A) s.heap := hP
  have hn := hI.1
  have hR := hI.2.1
  refine lv_aload_n hx hb d_M_place_0 rfl (lv_at hl 0 rfl) ?_
  refine lv_iload_n hx hb d_M_place_1 rfl (lv_at hl 1 rfl) ?_
  refine vp_callSi (W.runV (As := [.int x]) (rest := []) ⟨hx, hb, hml, hown, hts⟩ (c_M_isWafer l X G A x) (cwV 1 hts (gV (wd_3 54 rfl rfl) (wd_3 56 rfl rfl) (wd_s 21 rfl) (wd_1 6 rfl rfl) (wd_3 57 rfl rfl)) rfl rfl rfl ⟨rfl, hd_M_isWafer⟩ ⟨Nat.le_of_ble_eq_true rfl, Nat.le_of_ble_eq_true rfl⟩) (vx_preV (P := QR X G A) hP hK (va_recv hK.1 hP (ci := 6) rfl rw_0)) rfl rfl hl.1 rfl (lv_room (Nat.le_of_ble_eq_true rfl)) d_M_place_2 ⟨Nat.zero_le _, Nat.zero_le _⟩) (fun r2 e2 => ?_)
  subst e2
  refine lv_if_eq (tgt := 17) hx hb d_M_place_5 rfl (fun h5 => ?_) (fun h5 => ?_)
  ·
    have h5 := b2i_f h5
    refine lv_iconst (v := (-1)) hx hb d_M_place_17 rfl ?_
    exact W.iret (v := (-1)) hx hb hrt (fun t ht hW => ⟨_, rfl, by rw [placeF, oc_none (isWafer_no hn h5)], ht⟩) (fun q h => by cases h) d_M_place_18
  ·
    have h5 := b2i_t h5
    obtain ⟨i, hi, rfl⟩ := isWafer_x hn h5
    obtain ⟨w1, w2, w3, w4, w5, -⟩ := hI.2.2.1 i hi
    have wl := hR.1 (sA_rt A i)
    refine lv_aload_n hx hb d_M_place_8 rfl (lv_at hl 0 rfl) ?_
    refine va_get (D := X.1) (ci := 6) (C := R_Model) (T := F_Model) (N := 24) hx hb hts hin_Model hown hK.1 hP 0 rw_0 rfl 7 (by decide) (hts _ (wd_2 161 rfl rfl)) (fun _ h9 => h9) rfl d_M_place_9 ?_
    refine lv_iload_n hx hb d_M_place_12 rfl (lv_at hl 1 rfl) ?_
    refine va_iald hx hb hK.1 hP 7 0 rw_7 rfl (vp_in_nI (n := i) (by omega) (by omega)) d_M_place_13 ?_
    rw [nI_clamp (n := i) (by omega)]
    refine lv_goto (tgt := 18) hx hb d_M_place_14 rfl ?_
    exact W.iret (v := nI (sA_pl A i)) hx hb hrt (fun t ht hW => ⟨_, rfl, by rw [placeF, oc_some (widx_nI hi hn)], ht⟩) (fun q h => by cases h) d_M_place_18
abbrev rm_M_stage : Room := { frames := 1, cells := 0, slots := 0, locals := 21 }
set_option maxRecDepth 20000 in
set_option maxHeartbeats 4000000 in
theorem c_M_stage (l : Launch) (X : Xt) (G : Gr) (A : St) (x : Int32) (hI : Inv A) : Met l y_M_stage (Cond.code y_M_stage b_M_stage 2 (some .int) :: WA) rm_M_stage (va_Pc [.ref (rA_ad G 0), .int x] (fun U => QR X G A U.heap ∧ KK X U)) (vp_Si (fun ans => ans = stageF A x)) 0 0 (fun _ => False) := by
  refine vx_met (cc := b_M_stage) (maxL := 2) (ret := (some .int)) (by decide) rfl (Nat.le_of_ble_eq_true rfl) ?_
  intro p e s m below meth c ls hx hb hrt hts hown hlocks hname hml hB hl
  obtain ⟨hP, hK⟩ := hB
  have hown : s.vm.findClass R_Model = some m.cls := hown
  have hl : lv_has ls 2 [(0, .ref (rA_ad G 0)), (1, .int x)] := hl
  have hP : va_P X.1 classes (rw_ X G A) s.heap := hP
  have hn := hI.1
  have hR := hI.2.1
  refine lv_aload_n hx hb d_M_stage_0 rfl (lv_at hl 0 rfl) ?_
  refine lv_iload_n hx hb d_M_stage_1 rfl (lv_at hl 1 rfl) ?_
  refine vp_callSi (W.runV (As := [.int x]) (rest := []) ⟨hx, hb, hml, hown, hts⟩ (c_M_isWafer l X G A x) (cwV 1 hts (gV (wd_3 54 rfl rfl) (wd_3 56 rfl rfl) (wd_s 21 rfl) (wd_1 6 rfl rfl) (wd_3 57 rfl rfl)) rfl rfl rfl ⟨rfl, hd_M_isWafer⟩ ⟨Nat.le_of_ble_eq_true rfl, Nat.le_of_ble_eq_true rfl⟩) (vx_preV (P := QR X G A) hP hK (va_recv hK.1 hP (ci := 6) rfl rw_0)) rfl rfl hl.1 rfl (lv_room (Nat.le_of_ble_eq_true rfl)) d_M_stage_2 ⟨Nat.zero_le _, Nat.zero_le _⟩) (fun r2 e2 => ?_)
  subst e2
  refine lv_if_eq (tgt := 17) hx hb d_M_stage_5 rfl (fun h5 => ?_) (fun h5 => ?_)
  ·
    have h5 := b2i_f h5
    refine lv_iconst (v := (-1)) hx hb d_M_stage_17 rfl ?_
    exact W.iret (v := (-1)) hx hb hrt (fun t ht hW => ⟨_, rfl, by rw [stageF, oc_none (isWafer_no hn h5)], ht⟩) (fun q h => by cases h) d_M_stage_18
  ·
    have h5 := b2i_t h5
    obtain ⟨i, hi, rfl⟩ := isWafer_x hn h5
    obtain ⟨w1, w2, w3, w4, w5, -⟩ := hI.2.2.1 i hi
    have wl := hR.1 (sA_rt A i)
    refine lv_aload_n hx hb d_M_stage_8 rfl (lv_at hl 0 rfl) ?_
    refine va_get (D := X.1) (ci := 6) (C := R_Model) (T := F_Model) (N := 24) hx hb hts hin_Model hown hK.1 hP 0 rw_0 rfl 6 (by decide) (hts _ (wd_2 160 rfl rfl)) (fun _ h9 => h9) rfl d_M_stage_9 ?_
    refine lv_iload_n hx hb d_M_stage_12 rfl (lv_at hl 1 rfl) ?_
    refine va_iald hx hb hK.1 hP 6 0 rw_6 rfl (vp_in_nI (n := i) (by omega) (by omega)) d_M_stage_13 ?_
    rw [nI_clamp (n := i) (by omega)]
    refine lv_goto (tgt := 18) hx hb d_M_stage_14 rfl ?_
    exact W.iret (v := nI (sA_sg A i)) hx hb hrt (fun t ht hW => ⟨_, rfl, by rw [stageF, oc_some (widx_nI hi hn)], ht⟩) (fun q h => by cases h) d_M_stage_18
abbrev rm_M_left : Room := { frames := 1, cells := 0, slots := 0, locals := 21 }
set_option maxRecDepth 20000 in
set_option maxHeartbeats 4000000 in
theorem c_M_left (l : Launch) (X : Xt) (G : Gr) (A : St) (x : Int32) (hI : Inv A) : Met l y_M_left (Cond.code y_M_left b_M_left 2 (some .int) :: WA) rm_M_left (va_Pc [.ref (rA_ad G 0), .int x] (fun U => QR X G A U.heap ∧ KK X U)) (vp_Si (fun ans => ans = leftF A x)) 0 0 (fun _ => False) := by
  refine vx_met (cc := b_M_left) (maxL := 2) (ret := (some .int)) (by decide) rfl (Nat.le_of_ble_eq_true rfl) ?_
  intro p e s m below meth c ls hx hb hrt hts hown hlocks hname hml hB hl
  obtain ⟨hP, hK⟩ := hB
  have hown : s.vm.findClass R_Model = some m.cls := hown
  have hl : lv_has ls 2 [(0, .ref (rA_ad G 0)), (1, .int x)] := hl
  have hP : va_P X.1 classes (rw_ X G A) s.heap := hP
  have hn := hI.1
  have hR := hI.2.1
  refine lv_aload_n hx hb d_M_left_0 rfl (lv_at hl 0 rfl) ?_
  refine lv_iload_n hx hb d_M_left_1 rfl (lv_at hl 1 rfl) ?_
  refine vp_callSi (W.runV (As := [.int x]) (rest := []) ⟨hx, hb, hml, hown, hts⟩ (c_M_isWafer l X G A x) (cwV 1 hts (gV (wd_3 54 rfl rfl) (wd_3 56 rfl rfl) (wd_s 21 rfl) (wd_1 6 rfl rfl) (wd_3 57 rfl rfl)) rfl rfl rfl ⟨rfl, hd_M_isWafer⟩ ⟨Nat.le_of_ble_eq_true rfl, Nat.le_of_ble_eq_true rfl⟩) (vx_preV (P := QR X G A) hP hK (va_recv hK.1 hP (ci := 6) rfl rw_0)) rfl rfl hl.1 rfl (lv_room (Nat.le_of_ble_eq_true rfl)) d_M_left_2 ⟨Nat.zero_le _, Nat.zero_le _⟩) (fun r2 e2 => ?_)
  subst e2
  refine lv_if_eq (tgt := 17) hx hb d_M_left_5 rfl (fun h5 => ?_) (fun h5 => ?_)
  ·
    have h5 := b2i_f h5
    refine lv_iconst (v := (-1)) hx hb d_M_left_17 rfl ?_
    exact W.iret (v := (-1)) hx hb hrt (fun t ht hW => ⟨_, rfl, by rw [leftF, oc_none (isWafer_no hn h5)], ht⟩) (fun q h => by cases h) d_M_left_18
  ·
    have h5 := b2i_t h5
    obtain ⟨i, hi, rfl⟩ := isWafer_x hn h5
    obtain ⟨w1, w2, w3, w4, w5, -⟩ := hI.2.2.1 i hi
    have wl := hR.1 (sA_rt A i)
    refine lv_aload_n hx hb d_M_left_8 rfl (lv_at hl 0 rfl) ?_
    refine va_get (D := X.1) (ci := 6) (C := R_Model) (T := F_Model) (N := 24) hx hb hts hin_Model hown hK.1 hP 0 rw_0 rfl 8 (by decide) (hts _ (wd_2 162 rfl rfl)) (fun _ h9 => h9) rfl d_M_left_9 ?_
    refine lv_iload_n hx hb d_M_left_12 rfl (lv_at hl 1 rfl) ?_
    refine va_iald hx hb hK.1 hP 8 0 rw_8 rfl (vp_in_nI (n := i) (by omega) (by omega)) d_M_left_13 ?_
    rw [nI_clamp (n := i) (by omega)]
    refine lv_goto (tgt := 18) hx hb d_M_left_14 rfl ?_
    exact W.iret (v := nI (sA_lf A i)) hx hb hrt (fun t ht hW => ⟨_, rfl, by rw [leftF, oc_some (widx_nI hi hn)], ht⟩) (fun q h => by cases h) d_M_left_18
abbrev rm_M_isVisit : Room := { frames := 1, cells := 0, slots := 0, locals := 21 }
set_option maxRecDepth 20000 in
set_option maxHeartbeats 4000000 in
theorem c_M_isVisit (l : Launch) (X : Xt) (G : Gr) (A : St) (x : Int32) (y : Int32) (hI : Inv A) : Met l y_M_isVisit (Cond.code y_M_isVisit b_M_isVisit 3 (some .boolean) :: WA) rm_M_isVisit (va_Pc [.ref (rA_ad G 0), .int x, .int y] (fun U => QR X G A U.heap ∧ KK X U)) (vp_Si (fun ans => ans = b2i (f_M_isVisit A x y))) 0 0 (fun _ => False) := by
  refine vx_met (cc := b_M_isVisit) (maxL := 3) (ret := (some .boolean)) (by decide) rfl (Nat.le_of_ble_eq_true rfl) ?_
  intro p e s m below meth c ls hx hb hrt hts hown hlocks hname hml hB hl
  obtain ⟨hP, hK⟩ := hB
  have hown : s.vm.findClass R_Model = some m.cls := hown
  have hl : lv_has ls 3 [(0, .ref (rA_ad G 0)), (1, .int x), (2, .int y)] := hl
  have hP : va_P X.1 classes (rw_ X G A) s.heap := hP
  have hn := hI.1
  have hR := hI.2.1
  refine lv_aload_n hx hb d_M_isVisit_0 rfl (lv_at hl 0 rfl) ?_
  refine lv_iload_n hx hb d_M_isVisit_1 rfl (lv_at hl 1 rfl) ?_
  refine vp_callSi (W.runV (As := [.int x]) (rest := []) ⟨hx, hb, hml, hown, hts⟩ (c_M_isWafer l X G A x) (cwV 1 hts (gV (wd_3 54 rfl rfl) (wd_3 56 rfl rfl) (wd_s 21 rfl) (wd_1 6 rfl rfl) (wd_3 57 rfl rfl)) rfl rfl rfl ⟨rfl, hd_M_isWafer⟩ ⟨Nat.le_of_ble_eq_true rfl, Nat.le_of_ble_eq_true rfl⟩) (vx_preV (P := QR X G A) hP hK (va_recv hK.1 hP (ci := 6) rfl rw_0)) rfl rfl hl.1 rfl (lv_room (Nat.le_of_ble_eq_true rfl)) d_M_isVisit_2 ⟨Nat.zero_le _, Nat.zero_le _⟩) (fun r2 e2 => ?_)
  subst e2
  refine lv_if_eq (tgt := 26) hx hb d_M_isVisit_5 rfl (fun h5 => ?_) (fun h5 => ?_)
  ·
    have h5 := b2i_f h5
    refine lv_iconst (v := 0) hx hb d_M_isVisit_26 rfl ?_
    exact W.zret (v := b2i false) hx hb hrt (b2i_nar _) (fun t ht hW => ⟨_, rfl, by rw [f_M_isVisit, oc_none (isWafer_no hn h5)], ht⟩) (fun q h => by cases h) d_M_isVisit_27
  ·
    have h5 := b2i_t h5
    obtain ⟨i, hi, rfl⟩ := isWafer_x hn h5
    obtain ⟨w1, w2, w3, w4, w5, -⟩ := hI.2.2.1 i hi
    have wl := hR.1 (sA_rt A i)
    refine lv_iload_n hx hb d_M_isVisit_8 rfl (lv_at hl 2 rfl) ?_
    refine lv_if_lt (tgt := 26) hx hb d_M_isVisit_9 rfl (fun h9 => ?_) (fun h9 => ?_)
    ·
      refine lv_iconst (v := 0) hx hb d_M_isVisit_26 rfl ?_
      exact W.zret (v := b2i false) hx hb hrt (b2i_nar _) (fun t ht hW => ⟨_, rfl, by rw [f_M_isVisit, oc_some (widx_nI hi hn), begN]; rw [decide_eq_false (fun z => i32_le.mpr z.1 h9)], ht⟩) (fun q h => by cases h) d_M_isVisit_27
    ·
      refine lv_iload_n hx hb d_M_isVisit_12 rfl (lv_at hl 2 rfl) ?_
      refine lv_aload_n hx hb d_M_isVisit_13 rfl (lv_at hl 0 rfl) ?_
      refine va_get (D := X.1) (ci := 6) (C := R_Model) (T := F_Model) (N := 24) hx hb hts hin_Model hown hK.1 hP 0 rw_0 rfl 6 (by decide) (hts _ (wd_2 160 rfl rfl)) (fun _ h9 => h9) rfl d_M_isVisit_14 ?_
      refine lv_iload_n hx hb d_M_isVisit_17 rfl (lv_at hl 1 rfl) ?_
      refine va_iald hx hb hK.1 hP 6 0 rw_6 rfl (vp_in_nI (n := i) (by omega) (by omega)) d_M_isVisit_18 ?_
      rw [nI_clamp (n := i) (by omega)]
      refine lv_icmp_ge (tgt := 26) hx hb d_M_isVisit_19 rfl (fun h19 => ?_) (fun h19 => ?_)
      ·
        refine lv_iconst (v := 0) hx hb d_M_isVisit_26 rfl ?_
        exact W.zret (v := b2i false) hx hb hrt (b2i_nar _) (fun t ht hW => ⟨_, rfl, by rw [f_M_isVisit, oc_some (widx_nI hi hn), begN]; rw [decide_eq_false (fun z => i32_le.mpr h19 z.2)], ht⟩) (fun q h => by cases h) d_M_isVisit_27
      ·
        refine lv_iconst (v := 1) hx hb d_M_isVisit_22 rfl ?_
        refine lv_goto (tgt := 27) hx hb d_M_isVisit_23 rfl ?_
        exact W.zret (v := b2i true) hx hb hrt (b2i_nar _) (fun t ht hW => ⟨_, rfl, by rw [f_M_isVisit, oc_some (widx_nI hi hn), begN]; rw [decide_eq_true ⟨i32_le.mp h9, i32_nle h19⟩], ht⟩) (fun q h => by cases h) d_M_isVisit_27
abbrev rm_M_visited : Room := { frames := 2, cells := 0, slots := 0, locals := 43 }
set_option maxRecDepth 20000 in
set_option maxHeartbeats 4000000 in
theorem c_M_visited (l : Launch) (X : Xt) (G : Gr) (A : St) (x : Int32) (y : Int32) (hI : Inv A) : Met l y_M_visited (Cond.code y_M_visited b_M_visited 3 (some .int) :: WA) rm_M_visited (va_Pc [.ref (rA_ad G 0), .int x, .int y] (fun U => QR X G A U.heap ∧ KK X U)) (vp_Si (fun ans => ans = visitedF A x y)) 0 0 (fun _ => False) := by
  refine vx_met (cc := b_M_visited) (maxL := 3) (ret := (some .int)) (by decide) rfl (Nat.le_of_ble_eq_true rfl) ?_
  intro p e s m below meth c ls hx hb hrt hts hown hlocks hname hml hB hl
  obtain ⟨hP, hK⟩ := hB
  have hown : s.vm.findClass R_Model = some m.cls := hown
  have hl : lv_has ls 3 [(0, .ref (rA_ad G 0)), (1, .int x), (2, .int y)] := hl
  have hP : va_P X.1 classes (rw_ X G A) s.heap := hP
  have hn := hI.1
  have hR := hI.2.1
  refine lv_aload_n hx hb d_M_visited_0 rfl (lv_at hl 0 rfl) ?_
  refine lv_iload_n hx hb d_M_visited_1 rfl (lv_at hl 1 rfl) ?_
  refine lv_iload_n hx hb d_M_visited_2 rfl (lv_at hl 2 rfl) ?_
  refine vp_callSi (W.runV (As := [.int x, .int y]) (rest := []) ⟨hx, hb, hml, hown, hts⟩ (c_M_isVisit l X G A x y hI) (cwV 2 hts (gV (wd_3 121 rfl rfl) (wd_3 123 rfl rfl) (wd_s 26 rfl) (wd_1 6 rfl rfl) (wd_3 124 rfl rfl)) rfl rfl rfl ⟨rfl, hd_M_isVisit⟩ ⟨Nat.le_of_ble_eq_true rfl, Nat.le_of_ble_eq_true rfl⟩) (vx_preV (P := QR X G A) hP hK (va_recv hK.1 hP (ci := 6) rfl rw_0)) rfl rfl hl.1 rfl (lv_room (Nat.le_of_ble_eq_true rfl)) d_M_visited_3 ⟨Nat.zero_le _, Nat.zero_le _⟩) (fun r3 e3 => ?_)
  subst e3
  refine lv_if_eq (tgt := 22) hx hb d_M_visited_6 rfl (fun h6 => ?_) (fun h6 => ?_)
  ·
    have h6 := b2i_f h6
    refine lv_iconst (v := (-1)) hx hb d_M_visited_22 rfl ?_
    exact W.iret (v := (-1)) hx hb hrt (fun t ht hW => ⟨_, rfl, visited_no h6, ht⟩) (fun q h => by cases h) d_M_visited_23
  ·
    have h6 := b2i_t h6
    obtain ⟨i, j, hi, hj, rfl, rfl, hwx, hbg⟩ := isVisit_x hI h6
    obtain ⟨w1, w2, w3, w4, w5, -⟩ := hI.2.2.1 i hi
    have wl := hR.1 (sA_rt A i)
    refine lv_aload_n hx hb d_M_visited_9 rfl (lv_at hl 0 rfl) ?_
    refine va_get (D := X.1) (ci := 6) (C := R_Model) (T := F_Model) (N := 24) hx hb hts hin_Model hown hK.1 hP 0 rw_0 rfl 11 (by decide) (hts _ (wd_2 165 rfl rfl)) (fun _ h9 => h9) rfl d_M_visited_10 ?_
    refine lv_iconst (v := 3) hx hb d_M_visited_13 rfl ?_
    refine lv_iload_n hx hb d_M_visited_14 rfl (lv_at hl 1 rfl) ?_
    refine lv_imul hx hb d_M_visited_15 ?_
    refine lv_iload_n hx hb d_M_visited_16 rfl (lv_at hl 2 rfl) ?_
    refine lv_iadd hx hb d_M_visited_17 ?_
    rw [idx3]
    refine va_iald hx hb hK.1 hP 11 0 rw_11 rfl (vp_in_nI (n := 3 * i + j) (by omega) (by omega)) d_M_visited_18 ?_
    rw [nI_clamp (n := 3 * i + j) (by omega)]
    rw [show (3 * i + j) / 3 = i by omega, show (3 * i + j) % 3 = j by omega]
    refine lv_goto (tgt := 23) hx hb d_M_visited_19 rfl ?_
    exact W.iret (v := sA_ch A i j) hx hb hrt (fun t ht hW => ⟨_, rfl, visited_yes hwx hbg (by omega), ht⟩) (fun q h => by cases h) d_M_visited_23
abbrev rm_M_when : Room := { frames := 2, cells := 0, slots := 0, locals := 43 }
set_option maxRecDepth 20000 in
set_option maxHeartbeats 4000000 in
theorem c_M_when (l : Launch) (X : Xt) (G : Gr) (A : St) (x : Int32) (y : Int32) (z : Int32) (hI : Inv A) : Met l y_M_when (Cond.code y_M_when b_M_when 4 (some .int) :: WA) rm_M_when (va_Pc [.ref (rA_ad G 0), .int x, .int y, .int z] (fun U => QR X G A U.heap ∧ KK X U)) (vp_Si (fun ans => ans = whenF A x y z)) 0 0 (fun _ => False) := by
  refine vx_met (cc := b_M_when) (maxL := 4) (ret := (some .int)) (by decide) rfl (Nat.le_of_ble_eq_true rfl) ?_
  intro p e s m below meth c ls hx hb hrt hts hown hlocks hname hml hB hl
  obtain ⟨hP, hK⟩ := hB
  have hown : s.vm.findClass R_Model = some m.cls := hown
  have hl : lv_has ls 4 [(0, .ref (rA_ad G 0)), (1, .int x), (2, .int y), (3, .int z)] := hl
  have hP : va_P X.1 classes (rw_ X G A) s.heap := hP
  have hn := hI.1
  have hR := hI.2.1
  refine lv_aload_n hx hb d_M_when_0 rfl (lv_at hl 0 rfl) ?_
  refine lv_iload_n hx hb d_M_when_1 rfl (lv_at hl 1 rfl) ?_
  refine lv_iload_n hx hb d_M_when_2 rfl (lv_at hl 2 rfl) ?_
  refine vp_callSi (W.runV (As := [.int x, .int y]) (rest := []) ⟨hx, hb, hml, hown, hts⟩ (c_M_isVisit l X G A x y hI) (cwV 2 hts (gV (wd_3 121 rfl rfl) (wd_3 123 rfl rfl) (wd_s 26 rfl) (wd_1 6 rfl rfl) (wd_3 124 rfl rfl)) rfl rfl rfl ⟨rfl, hd_M_isVisit⟩ ⟨Nat.le_of_ble_eq_true rfl, Nat.le_of_ble_eq_true rfl⟩) (vx_preV (P := QR X G A) hP hK (va_recv hK.1 hP (ci := 6) rfl rw_0)) rfl rfl hl.1 rfl (lv_room (Nat.le_of_ble_eq_true rfl)) d_M_when_3 ⟨Nat.zero_le _, Nat.zero_le _⟩) (fun r3 e3 => ?_)
  subst e3
  refine lv_if_ne (tgt := 13) hx hb d_M_when_6 rfl (fun h6 => ?_) (fun h6 => ?_)
  ·
    have h6 := b2i_t h6
    obtain ⟨i, j, hi, hj, rfl, rfl, hwx, hbg⟩ := isVisit_x hI h6
    obtain ⟨w1, w2, w3, w4, w5, -⟩ := hI.2.2.1 i hi
    have wl := hR.1 (sA_rt A i)
    refine lv_iload_n hx hb d_M_when_13 rfl (lv_at hl 3 rfl) ?_
    refine lv_if_eq (tgt := 30) hx hb d_M_when_14 rfl (fun h14 => ?_) (fun h14 => ?_)
    ·
      refine lv_aload_n hx hb d_M_when_30 rfl (lv_at hl 0 rfl) ?_
      refine va_get (D := X.1) (ci := 6) (C := R_Model) (T := F_Model) (N := 24) hx hb hts hin_Model hown hK.1 hP 0 rw_0 rfl 12 (by decide) (hts _ (wd_2 166 rfl rfl)) (fun _ h9 => h9) rfl d_M_when_31 ?_
      refine lv_iconst (v := 3) hx hb d_M_when_34 rfl ?_
      refine lv_iload_n hx hb d_M_when_35 rfl (lv_at hl 1 rfl) ?_
      refine lv_imul hx hb d_M_when_36 ?_
      refine lv_iload_n hx hb d_M_when_37 rfl (lv_at hl 2 rfl) ?_
      refine lv_iadd hx hb d_M_when_38 ?_
      rw [idx3]
      refine va_iald hx hb hK.1 hP 12 0 rw_12 rfl (vp_in_nI (n := 3 * i + j) (by omega) (by omega)) d_M_when_39 ?_
      rw [nI_clamp (n := 3 * i + j) (by omega)]
      rw [show (3 * i + j) / 3 = i by omega, show (3 * i + j) % 3 = j by omega]
      exact W.iret (v := sA_be A i j) hx hb hrt (fun t ht hW => ⟨_, rfl, by rw [← when_yes hwx hbg (by omega), if_pos h14], ht⟩) (fun q h => by cases h) d_M_when_40
    ·
      refine lv_aload_n hx hb d_M_when_17 rfl (lv_at hl 0 rfl) ?_
      refine va_get (D := X.1) (ci := 6) (C := R_Model) (T := F_Model) (N := 24) hx hb hts hin_Model hown hK.1 hP 0 rw_0 rfl 13 (by decide) (hts _ (wd_2 167 rfl rfl)) (fun _ h9 => h9) rfl d_M_when_18 ?_
      refine lv_iconst (v := 3) hx hb d_M_when_21 rfl ?_
      refine lv_iload_n hx hb d_M_when_22 rfl (lv_at hl 1 rfl) ?_
      refine lv_imul hx hb d_M_when_23 ?_
      refine lv_iload_n hx hb d_M_when_24 rfl (lv_at hl 2 rfl) ?_
      refine lv_iadd hx hb d_M_when_25 ?_
      rw [idx3]
      refine va_iald hx hb hK.1 hP 13 0 rw_13 rfl (vp_in_nI (n := 3 * i + j) (by omega) (by omega)) d_M_when_26 ?_
      rw [nI_clamp (n := 3 * i + j) (by omega)]
      rw [show (3 * i + j) / 3 = i by omega, show (3 * i + j) % 3 = j by omega]
      refine lv_goto (tgt := 40) hx hb d_M_when_27 rfl ?_
      exact W.iret (v := sA_en A i j) hx hb hrt (fun t ht hW => ⟨_, rfl, by rw [← when_yes hwx hbg (by omega), if_neg h14], ht⟩) (fun q h => by cases h) d_M_when_40
  ·
    have h6 := b2i_f h6
    refine lv_iconst (v := (-1)) hx hb d_M_when_9 rfl ?_
    refine lv_goto (tgt := 40) hx hb d_M_when_10 rfl ?_
    exact W.iret (v := (-1)) hx hb hrt (fun t ht hW => ⟨_, rfl, when_no h6, ht⟩) (fun q h => by cases h) d_M_when_40
abbrev rm_M_stay : Room := { frames := 1, cells := 0, slots := 0, locals := 21 }
set_option maxRecDepth 20000 in
set_option maxHeartbeats 4000000 in
theorem c_M_stay (l : Launch) (X : Xt) (G : Gr) (A : St) (x : Int32) (hI : Inv A) (hBd : snB A) : Met l y_M_stay (Cond.code y_M_stay b_M_stay 4 (some .int) :: WA) rm_M_stay (va_Pc [.ref (rA_ad G 0), .int x] (fun U => QR X G A U.heap ∧ KK X U)) (vp_Si (fun ans => ans = stayF A x)) 0 0 (fun _ => False) := by
  refine vx_met (cc := b_M_stay) (maxL := 4) (ret := (some .int)) (by decide) rfl (Nat.le_of_ble_eq_true rfl) ?_
  intro p e s m below meth c ls hx hb hrt hts hown hlocks hname hml hB hl
  obtain ⟨hP, hK⟩ := hB
  have hown : s.vm.findClass R_Model = some m.cls := hown
  have hl : lv_has ls 4 [(0, .ref (rA_ad G 0)), (1, .int x)] := hl
  have hP : va_P X.1 classes (rw_ X G A) s.heap := hP
  have hn := hI.1
  have hR := hI.2.1
  refine lv_aload_n hx hb d_M_stay_0 rfl (lv_at hl 0 rfl) ?_
  refine lv_iload_n hx hb d_M_stay_1 rfl (lv_at hl 1 rfl) ?_
  refine vp_callSi (W.runV (As := [.int x]) (rest := []) ⟨hx, hb, hml, hown, hts⟩ (c_M_isWafer l X G A x) (cwV 1 hts (gV (wd_3 54 rfl rfl) (wd_3 56 rfl rfl) (wd_s 21 rfl) (wd_1 6 rfl rfl) (wd_3 57 rfl rfl)) rfl rfl rfl ⟨rfl, hd_M_isWafer⟩ ⟨Nat.le_of_ble_eq_true rfl, Nat.le_of_ble_eq_true rfl⟩) (vx_preV (P := QR X G A) hP hK (va_recv hK.1 hP (ci := 6) rfl rw_0)) rfl rfl hl.1 rfl (lv_room (Nat.le_of_ble_eq_true rfl)) d_M_stay_2 ⟨Nat.zero_le _, Nat.zero_le _⟩) (fun r2 e2 => ?_)
  subst e2
  refine lv_if_eq (tgt := 18) hx hb d_M_stay_5 rfl (fun h5 => ?_) (fun h5 => ?_)
  ·
    have h5 := b2i_f h5
    refine lv_iconst (v := (-1)) hx hb d_M_stay_18 rfl ?_
    exact W.iret (v := (-1)) hx hb hrt (fun t ht hW => ⟨_, rfl, by rw [stayF, oc_none (isWafer_no hn h5)], ht⟩) (fun q h => by cases h) d_M_stay_19
  ·
    have h5 := b2i_t h5
    obtain ⟨i, hi, rfl⟩ := isWafer_x hn h5
    obtain ⟨w1, w2, w3, w4, w5, -⟩ := hI.2.2.1 i hi
    have wl := hR.1 (sA_rt A i)
    refine lv_aload_n hx hb d_M_stay_8 rfl (lv_at hl 0 rfl) ?_
    refine va_get (D := X.1) (ci := 6) (C := R_Model) (T := F_Model) (N := 24) hx hb hts hin_Model hown hK.1 hP 0 rw_0 rfl 7 (by decide) (hts _ (wd_2 161 rfl rfl)) (fun _ h9 => h9) rfl d_M_stay_9 ?_
    refine lv_iload_n hx hb d_M_stay_12 rfl (lv_at hl 1 rfl) ?_
    refine va_iald hx hb hK.1 hP 7 0 rw_7 rfl (vp_in_nI (n := i) (by omega) (by omega)) d_M_stay_13 ?_
    rw [nI_clamp (n := i) (by omega)]
    refine lv_iconst (v := 3) hx hb d_M_stay_14 rfl ?_
    refine lv_icmp_le (tgt := 20) hx hb d_M_stay_15 rfl (fun h15 => ?_) (fun h15 => ?_)
    ·
      have hp4 : sA_pl A i < 4 := by
        have := (nI_leI (a := sA_pl A i) (b := 3) (by omega) (by omega)).mp h15
        omega
      have hg1 := w5 hp4
      have hlm := lmt_le hI hi hp4
      have hlm2 : sA_lm A (sA_rt A i) (sA_sg A i - 1) ≤ 100 := hlm
      have hbn := hBd i hi
      refine lv_aload_n hx hb d_M_stay_20 rfl (lv_at hl 0 rfl) ?_
      refine va_get (D := X.1) (ci := 6) (C := R_Model) (T := F_Model) (N := 24) hx hb hts hin_Model hown hK.1 hP 0 rw_0 rfl 3 (by decide) (hts _ (wd_2 157 rfl rfl)) (fun _ h9 => h9) rfl d_M_stay_21 ?_
      refine lv_iconst (v := 3) hx hb d_M_stay_24 rfl ?_
      refine lv_aload_n hx hb d_M_stay_25 rfl (lv_at hl 0 rfl) ?_
      refine va_get (D := X.1) (ci := 6) (C := R_Model) (T := F_Model) (N := 24) hx hb hts hin_Model hown hK.1 hP 0 rw_0 rfl 5 (by decide) (hts _ (wd_2 159 rfl rfl)) (fun _ h9 => h9) rfl d_M_stay_26 ?_
      refine lv_iload_n hx hb d_M_stay_29 rfl (lv_at hl 1 rfl) ?_
      refine va_iald hx hb hK.1 hP 5 0 rw_5 rfl (vp_in_nI (n := i) (by omega) (by omega)) d_M_stay_30 ?_
      rw [nI_clamp (n := i) (by omega)]
      refine lv_imul hx hb d_M_stay_31 ?_
      refine lv_aload_n hx hb d_M_stay_32 rfl (lv_at hl 0 rfl) ?_
      refine va_get (D := X.1) (ci := 6) (C := R_Model) (T := F_Model) (N := 24) hx hb hts hin_Model hown hK.1 hP 0 rw_0 rfl 6 (by decide) (hts _ (wd_2 160 rfl rfl)) (fun _ h9 => h9) rfl d_M_stay_33 ?_
      refine lv_iload_n hx hb d_M_stay_36 rfl (lv_at hl 1 rfl) ?_
      refine va_iald hx hb hK.1 hP 6 0 rw_6 rfl (vp_in_nI (n := i) (by omega) (by omega)) d_M_stay_37 ?_
      rw [nI_clamp (n := i) (by omega)]
      refine lv_iadd hx hb d_M_stay_38 ?_
      refine lv_iconst (v := 1) hx hb d_M_stay_39 rfl ?_
      refine lv_isub hx hb d_M_stay_40 ?_
      rw [idx3m hg1]
      refine va_iald hx hb hK.1 hP 4 0 rw_4 rfl (vp_in_nI (n := 3 * sA_rt A i + (sA_sg A i - 1)) (by omega) (by omega)) d_M_stay_41 ?_
      rw [nI_clamp (n := 3 * (sA_rt A i) + (sA_sg A i - 1)) (by omega)]
      rw [show (3 * (sA_rt A i) + (sA_sg A i - 1)) / 3 = (sA_rt A i) by omega, show (3 * (sA_rt A i) + (sA_sg A i - 1)) % 3 = (sA_sg A i - 1) by omega]
      refine lv_istore_n (lv' := [(2, .int (nI (sA_lm A (sA_rt A i) (sA_sg A i - 1)))), (0, .ref (rA_ad G 0)), (1, .int (nI i))]) hx hb d_M_stay_42 rfl hl (by decide) rfl (fun ls hl => ?_)
      refine lv_aload_n hx hb d_M_stay_43 rfl (lv_at hl 1 rfl) ?_
      refine va_get (D := X.1) (ci := 6) (C := R_Model) (T := F_Model) (N := 24) hx hb hts hin_Model hown hK.1 hP 0 rw_0 rfl 8 (by decide) (hts _ (wd_2 162 rfl rfl)) (fun _ h9 => h9) rfl d_M_stay_44 ?_
      refine lv_iload_n hx hb d_M_stay_47 rfl (lv_at hl 2 rfl) ?_
      refine va_iald hx hb hK.1 hP 8 0 rw_8 rfl (vp_in_nI (n := i) (by omega) (by omega)) d_M_stay_48 ?_
      rw [nI_clamp (n := i) (by omega)]
      refine lv_iload_n hx hb d_M_stay_49 rfl (lv_at hl 0 rfl) ?_
      refine lv_iadd hx hb d_M_stay_50 ?_
      refine lv_aload_n hx hb d_M_stay_51 rfl (lv_at hl 1 rfl) ?_
      refine va_get (D := X.1) (ci := 6) (C := R_Model) (T := F_Model) (N := 24) hx hb hts hin_Model hown hK.1 hP 0 rw_0 rfl 9 (by decide) (hts _ (wd_2 163 rfl rfl)) (fun _ h9 => h9) rfl d_M_stay_52 ?_
      refine lv_iload_n hx hb d_M_stay_55 rfl (lv_at hl 2 rfl) ?_
      refine va_iald hx hb hK.1 hP 9 0 rw_9 rfl (vp_in_nI (n := i) (by omega) (by omega)) d_M_stay_56 ?_
      rw [nI_clamp (n := i) (by omega)]
      refine lv_isub hx hb d_M_stay_57 ?_
      refine lv_istore_n (lv' := [(3, .int (((nI (sA_lf A i)) + (nI (sA_lm A (sA_rt A i) (sA_sg A i - 1)))) - (nI (sA_sn A i)))), (2, .int (nI (sA_lm A (sA_rt A i) (sA_sg A i - 1)))), (0, .ref (rA_ad G 0)), (1, .int (nI i))]) hx hb d_M_stay_58 rfl hl (by decide) rfl (fun ls hl => ?_)
      refine lv_iload_n hx hb d_M_stay_59 rfl (lv_at hl 1 rfl) ?_
      refine lv_if_ne (tgt := 67) hx hb d_M_stay_60 rfl (fun h60 => ?_) (fun h60 => ?_)
      ·
        refine lv_iload_n hx hb d_M_stay_67 rfl (lv_at hl 0 rfl) ?_
        refine lv_if_ge (tgt := 75) hx hb d_M_stay_68 rfl (fun h68 => ?_) (fun h68 => ?_)
        ·
          refine lv_iload_n hx hb d_M_stay_75 rfl (lv_at hl 0 rfl) ?_
          exact W.iret (v := (((nI (sA_lf A i)) + (nI (sA_lm A (sA_rt A i) (sA_sg A i - 1)))) - (nI (sA_sn A i)))) hx hb hrt (fun t ht hW => ⟨_, rfl, by rw [stayF, oc_some (widx_nI hi hn), stayN, if_pos (show sA_pl A i < 4 ∧ lmt A i ≠ 0 from ⟨hp4, fun z => h60 (by rw [show sA_lm A (sA_rt A i) (sA_sg A i - 1) = 0 from z]; rfl)⟩), show lmt A i = sA_lm A (sA_rt A i) (sA_sg A i - 1) from rfl, ← mx_nI (by omega) (by omega), ← nI_add]; exact if_max_a h68, ht⟩) (fun q h => by cases h) d_M_stay_76
        ·
          refine lv_iconst (v := 0) hx hb d_M_stay_71 rfl ?_
          refine lv_goto (tgt := 76) hx hb d_M_stay_72 rfl ?_
          exact W.iret (v := 0) hx hb hrt (fun t ht hW => ⟨_, rfl, by rw [stayF, oc_some (widx_nI hi hn), stayN, if_pos (show sA_pl A i < 4 ∧ lmt A i ≠ 0 from ⟨hp4, fun z => h60 (by rw [show sA_lm A (sA_rt A i) (sA_sg A i - 1) = 0 from z]; rfl)⟩), show lmt A i = sA_lm A (sA_rt A i) (sA_sg A i - 1) from rfl, ← mx_nI (by omega) (by omega), ← nI_add]; exact if_max_b h68, ht⟩) (fun q h => by cases h) d_M_stay_76
      ·
        refine lv_iconst (v := (-1)) hx hb d_M_stay_63 rfl ?_
        refine lv_goto (tgt := 76) hx hb d_M_stay_64 rfl ?_
        exact W.iret (v := (-1)) hx hb hrt (fun t ht hW => ⟨_, rfl, by rw [stayF, oc_some (widx_nI hi hn), stayN, if_neg (fun z => z.2 ((nI_eq (b := 0) (by omega) (by omega)).mp h60))], ht⟩) (fun q h => by cases h) d_M_stay_76
    ·
      refine lv_iconst (v := (-1)) hx hb d_M_stay_18 rfl ?_
      exact W.iret (v := (-1)) hx hb hrt (fun t ht hW => ⟨_, rfl, by rw [stayF, oc_some (widx_nI hi hn), stayN, if_neg (fun z => h15 (nI_le (b := 3) (show sA_pl A i ≤ 3 by omega) (by omega)))], ht⟩) (fun q h => by cases h) d_M_stay_19
abbrev rm_M_rank : Room := { frames := 2, cells := 0, slots := 0, locals := 44 }
set_option maxRecDepth 20000 in
set_option maxHeartbeats 4000000 in
theorem c_M_rank (l : Launch) (X : Xt) (G : Gr) (A : St) (i : Nat) (hI : Inv A) (hi : i < sA_n A) (hBd : snB A) : Met l y_M_rank (Cond.code y_M_rank b_M_rank 3 (some .int) :: WA) rm_M_rank (va_Pc [.ref (rA_ad G 0), .int (nI i)] (fun U => QR X G A U.heap ∧ KK X U)) (vp_Si (fun ans => ans = f_M_rank A i)) 0 0 (fun _ => False) := by
  refine vx_met (cc := b_M_rank) (maxL := 3) (ret := (some .int)) (by decide) rfl (Nat.le_of_ble_eq_true rfl) ?_
  intro p e s m below meth c ls hx hb hrt hts hown hlocks hname hml hB hl
  obtain ⟨hP, hK⟩ := hB
  have hown : s.vm.findClass R_Model = some m.cls := hown
  have hl : lv_has ls 3 [(0, .ref (rA_ad G 0)), (1, .int (nI i))] := hl
  have hP : va_P X.1 classes (rw_ X G A) s.heap := hP
  have hn := hI.1
  have hR := hI.2.1
  obtain ⟨w1, w2, w3, w4, w5, -⟩ := hI.2.2.1 i hi
  have wl := hR.1 (sA_rt A i)
  refine lv_aload_n hx hb d_M_rank_0 rfl (lv_at hl 0 rfl) ?_
  refine lv_iload_n hx hb d_M_rank_1 rfl (lv_at hl 1 rfl) ?_
  refine vp_callSi (W.runV (As := [.int (nI i)]) (rest := []) ⟨hx, hb, hml, hown, hts⟩ (c_M_stay l X G A (nI i) hI hBd) (cwV 1 hts (gV (wd_3 86 rfl rfl) (wd_3 75 rfl rfl) (wd_3 76 rfl rfl) (wd_1 6 rfl rfl) (wd_3 77 rfl rfl)) rfl rfl rfl ⟨rfl, hd_M_stay⟩ ⟨Nat.le_of_ble_eq_true rfl, Nat.le_of_ble_eq_true rfl⟩) (vx_preV (P := QR X G A) hP hK (va_recv hK.1 hP (ci := 6) rfl rw_0)) rfl rfl hl.1 rfl (lv_room (Nat.le_of_ble_eq_true rfl)) d_M_rank_2 ⟨Nat.zero_le _, Nat.zero_le _⟩) (fun r2 e2 => ?_)
  subst e2
  refine lv_istore_n (lv' := [(2, .int (stayF A (nI i))), (0, .ref (rA_ad G 0)), (1, .int (nI i))]) hx hb d_M_rank_5 rfl hl (by decide) rfl (fun ls hl => ?_)
  refine lv_aload_n hx hb d_M_rank_6 rfl (lv_at hl 1 rfl) ?_
  refine va_get (D := X.1) (ci := 6) (C := R_Model) (T := F_Model) (N := 24) hx hb hts hin_Model hown hK.1 hP 0 rw_0 rfl 7 (by decide) (hts _ (wd_2 161 rfl rfl)) (fun _ h9 => h9) rfl d_M_rank_7 ?_
  refine lv_iload_n hx hb d_M_rank_10 rfl (lv_at hl 2 rfl) ?_
  refine va_iald hx hb hK.1 hP 7 0 rw_7 rfl (vp_in_nI (n := i) (by omega) (by omega)) d_M_rank_11 ?_
  rw [nI_clamp (n := i) (by omega)]
  refine lv_iconst (v := 5) hx hb d_M_rank_12 rfl ?_
  refine lv_icmp_ne (tgt := 22) hx hb d_M_rank_13 rfl (fun h13 => ?_) (fun h13 => ?_)
  ·
    refine lv_iload_n hx hb d_M_rank_22 rfl (lv_at hl 0 rfl) ?_
    refine lv_if_ge (tgt := 32) hx hb d_M_rank_23 rfl (fun h23 => ?_) (fun h23 => ?_)
    ·
      refine lv_iload_n hx hb d_M_rank_32 rfl (lv_at hl 0 rfl) ?_
      exact W.iret (v := stayF A (nI i)) hx hb hrt (fun t ht hW => ⟨_, rfl, by rw [f_M_rank, ← rk_nI hI hBd hi, if_neg h13, if_pos h23], ht⟩) (fun q h => by cases h) d_M_rank_33
    ·
      refine lv_sipush (v := 1000) hx hb d_M_rank_26 rfl ?_
      refine lv_goto (tgt := 33) hx hb d_M_rank_29 rfl ?_
      exact W.iret (v := 1000) hx hb hrt (fun t ht hW => ⟨_, rfl, by rw [f_M_rank, ← rk_nI hI hBd hi, if_neg h13, if_neg h23], ht⟩) (fun q h => by cases h) d_M_rank_33
  ·
    refine lv_sipush (v := 2000) hx hb d_M_rank_16 rfl ?_
    refine lv_goto (tgt := 33) hx hb d_M_rank_19 rfl ?_
    exact W.iret (v := 2000) hx hb hrt (fun t ht hW => ⟨_, rfl, by rw [f_M_rank, ← rk_nI hI hBd hi, if_pos h13], ht⟩) (fun q h => by cases h) d_M_rank_33
