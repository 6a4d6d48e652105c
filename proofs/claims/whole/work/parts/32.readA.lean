abbrev rm_Y_isDown : Room := { frames := 0, cells := 0, slots := 0, locals := 0 }
def f_Y_isDown (A : St) (x : Int32) : Bool :=
  if ((nI (sA_dn A)) &&& ((1 : Int32) <<< (x &&& 31))) = 0 then
    false
  else
    true
set_option maxRecDepth 20000 in
set_option maxHeartbeats 4000000 in
theorem c_Y_isDown (l : Launch) (X : Xt) (G : Gc) (A : St) (x : Int32) : Met l y_Y_isDown (Cond.code y_Y_isDown b_Y_isDown 2 (some .boolean) :: WA) rm_Y_isDown (va_Pc [.ref (gA_ad G 1), .int x] (fun U => PR X G A U.heap ∧ KK X U)) (vp_Si (fun ans => ans = b2i (f_Y_isDown A x))) 0 0 (fun _ => False) := by
  refine vx_met (cc := b_Y_isDown) (maxL := 2) (ret := (some .boolean)) (by decide) rfl (Nat.le_of_ble_eq_true rfl) ?_
  intro p e s m below meth c ls hx hb hrt hts hown hlocks hname hml hB hl
  obtain ⟨hP, hK⟩ := hB
  have hown : s.vm.findClass R_Ways = some m.cls := hown
  have hl : lv_has ls 2 [(0, .ref (gA_ad G 1)), (1, .int x)] := hl
  have hP : va_P X.1 classes (cw X G A) s.heap := hP
  refine lv_aload_n hx hb d_Y_isDown_0 rfl (lv_at hl 0 rfl) ?_
  refine va_get (D := X.1) (ci := 1) (C := R_Ways) (T := F_Ways) (N := 2) hx hb hts hin_Ways hown hK.1 hP 1 cw_1 rfl 1 (by decide) (hts _ (wd_1 48 rfl rfl)) (fun _ h9 => h9) rfl d_Y_isDown_1 ?_
  refine lv_iconst (v := 1) hx hb d_Y_isDown_4 rfl ?_
  refine lv_iload_n hx hb d_Y_isDown_5 rfl (lv_at hl 1 rfl) ?_
  refine lv_ishl hx hb d_Y_isDown_6 ?_
  refine lv_iand hx hb d_Y_isDown_7 ?_
  refine lv_if_eq (tgt := 15) hx hb d_Y_isDown_8 rfl (fun h8 => ?_) (fun h8 => ?_)
  ·
    refine lv_iconst (v := 0) hx hb d_Y_isDown_15 rfl ?_
    exact W.zret (v := b2i false) hx hb hrt (b2i_nar _) (fun t ht hW => ⟨_, rfl, by rw [f_Y_isDown, if_pos h8], ht⟩) (fun q h => by cases h) d_Y_isDown_16
  ·
    refine lv_iconst (v := 1) hx hb d_Y_isDown_11 rfl ?_
    refine lv_goto (tgt := 16) hx hb d_Y_isDown_12 rfl ?_
    exact W.zret (v := b2i true) hx hb hrt (b2i_nar _) (fun t ht hW => ⟨_, rfl, by rw [f_Y_isDown, if_neg h8], ht⟩) (fun q h => by cases h) d_Y_isDown_16
abbrev rm_Y_routeOf : Room := { frames := 1, cells := 0, slots := 0, locals := 22 }
def f_Y_routeOf (x : Int32) : Option Nat :=
  if (f_T_isWithin x 0 1) then
    some x.toNatClampNeg
  else
    none
set_option maxRecDepth 20000 in
set_option maxHeartbeats 4000000 in
theorem c_Y_routeOf (l : Launch) (X : Xt) (G : Gc) (A : St) (x : Int32) : Met l y_Y_routeOf (Cond.code y_Y_routeOf b_Y_routeOf 2 (some (.object "ClusterTool$Route")) :: WA) rm_Y_routeOf (va_Pc [.ref (gA_ad G 1), .int x] (fun U => PR X G A U.heap ∧ KK X U)) (va_Sq (fun ans => ans = (f_Y_routeOf x).map (fun j => gA_ad G (8 + 4 * j)))) 0 0 (fun _ => False) := by
  refine vx_met (cc := b_Y_routeOf) (maxL := 2) (ret := (some (.object "ClusterTool$Route"))) (by decide) rfl (Nat.le_of_ble_eq_true rfl) ?_
  intro p e s m below meth c ls hx hb hrt hts hown hlocks hname hml hB hl
  obtain ⟨hP, hK⟩ := hB
  have hown : s.vm.findClass R_Ways = some m.cls := hown
  have hl : lv_has ls 2 [(0, .ref (gA_ad G 1)), (1, .int x)] := hl
  have hP : va_P X.1 classes (cw X G A) s.heap := hP
  refine lv_iload_n hx hb d_Y_routeOf_0 rfl (lv_at hl 1 rfl) ?_
  refine lv_iconst (v := 0) hx hb d_Y_routeOf_1 rfl ?_
  refine lv_iconst (v := 1) hx hb d_Y_routeOf_2 rfl ?_
  refine vp_callSi (va_Run.call (va_runSN (As := [.int x, .int 0, .int 1]) (rest := []) ⟨hx, hb, hml, hown, hts⟩ (c_T_isWithin l X x 0 1) ⟨va_cnB 3 hts (gC (wd_1 120 rfl rfl) rfl) rfl rfl rfl (hK.2.1 _ (List.mem_of_getElem? (i := 7) rfl)) (hts _ (wd_1 1 rfl rfl)) hd_T_isWithin ⟨Nat.le_of_ble_eq_true rfl, Nat.le_of_ble_eq_true rfl⟩, hts _ (wd_1 119 rfl rfl), trivial⟩ (vx_preS (P := fun _ => True) trivial hK) rfl rfl hl.1 rfl (lv_room (Nat.le_of_ble_eq_true rfl)) d_Y_routeOf_3 ⟨Nat.zero_le _, Nat.zero_le _⟩)) (fun r3 e3 => ?_)
  subst e3
  refine lv_if_eq (tgt := 18) hx hb d_Y_routeOf_6 rfl (fun h6 => ?_) (fun h6 => ?_)
  ·
    have h6 := b2i_f h6
    refine lv_null hx hb d_Y_routeOf_18 ?_
    exact W.aret (v := va_rf none) hx hb hrt (Or.inl ⟨_, rfl⟩) (Or.inl rfl) (fun t ht hW => ⟨_, rfl, by rw [f_Y_routeOf, if_neg (nt_of h6)]; rfl, ht⟩) (fun q h => by cases h) d_Y_routeOf_19
  ·
    have h6 := b2i_t h6
    refine lv_aload_n hx hb d_Y_routeOf_9 rfl (lv_at hl 0 rfl) ?_
    refine va_get (D := X.1) (ci := 1) (C := R_Ways) (T := F_Ways) (N := 2) hx hb hts hin_Ways hown hK.1 hP 1 cw_1 rfl 0 (by decide) (hts _ (wd_1 47 rfl rfl)) (fun _ h9 => h9) rfl d_Y_routeOf_10 ?_
    refine lv_iload_n hx hb d_Y_routeOf_13 rfl (lv_at hl 1 rfl) ?_
    refine va_aldq hx hb hK.1 hP 7 4 cw_7 rfl (within_in h6 (by decide)) d_Y_routeOf_14 ?_
    rw [rRefs_at (vp_clamp (within_in h6 (by decide)))]
    refine lv_goto (tgt := 19) hx hb d_Y_routeOf_15 rfl ?_
    exact W.aret (v := va_rf (some (gA_ad G (8 + 4 * x.toNatClampNeg)))) hx hb hrt (Or.inl ⟨_, rfl⟩) (Or.inr ⟨_, rfl⟩) (fun t ht hW => ⟨_, rfl, by rw [f_Y_routeOf, if_pos h6]; rfl, ht⟩) (fun q h => by cases h) d_Y_routeOf_19
abbrev rm_U_has : Room := { frames := 0, cells := 0, slots := 0, locals := 0 }
def f_U_has (A : St) (r : Nat) (x : Int32) : Bool :=
  if x < 0 then
    false
  else
    if (nI (sA_len A r)) ≤ x then
      false
    else
      true
set_option maxRecDepth 20000 in
set_option maxHeartbeats 4000000 in
theorem c_U_has (l : Launch) (X : Xt) (G : Gc) (A : St) (r : Nat) (hr : r < 2) (x : Int32) : Met l y_U_has (Cond.code y_U_has b_U_has 2 (some .boolean) :: WA) rm_U_has (va_Pc [.ref (gA_ad G (8 + 4 * r)), .int x] (fun U => PR X G A U.heap ∧ KK X U)) (vp_Si (fun ans => ans = b2i (f_U_has A r x))) 0 0 (fun _ => False) := by
  refine vx_met (cc := b_U_has) (maxL := 2) (ret := (some .boolean)) (by decide) rfl (Nat.le_of_ble_eq_true rfl) ?_
  intro p e s m below meth c ls hx hb hrt hts hown hlocks hname hml hB hl
  obtain ⟨hP, hK⟩ := hB
  have hown : s.vm.findClass R_Route = some m.cls := hown
  have hl : lv_has ls 2 [(0, .ref (gA_ad G (8 + 4 * r))), (1, .int x)] := hl
  have hP : va_P X.1 classes (cw X G A) s.heap := hP
  refine lv_iload_n hx hb d_U_has_0 rfl (lv_at hl 1 rfl) ?_
  refine lv_if_lt (tgt := 16) hx hb d_U_has_1 rfl (fun h1 => ?_) (fun h1 => ?_)
  ·
    refine lv_iconst (v := 0) hx hb d_U_has_16 rfl ?_
    exact W.zret (v := b2i false) hx hb hrt (b2i_nar _) (fun t ht hW => ⟨_, rfl, by rw [f_U_has, if_pos h1], ht⟩) (fun q h => by cases h) d_U_has_17
  ·
    refine lv_iload_n hx hb d_U_has_4 rfl (lv_at hl 1 rfl) ?_
    refine lv_aload_n hx hb d_U_has_5 rfl (lv_at hl 0 rfl) ?_
    refine va_get (D := X.1) (ci := 4) (C := R_Route) (T := F_Route) (N := 4) hx hb hts hin_Route hown hK.1 hP (8 + 4 * r) (cw_r hr) rfl 3 (by decide) (hts _ (wd_1 35 rfl rfl)) (fun _ h9 => h9) rfl d_U_has_6 ?_
    refine lv_icmp_ge (tgt := 16) hx hb d_U_has_9 rfl (fun h9 => ?_) (fun h9 => ?_)
    ·
      refine lv_iconst (v := 0) hx hb d_U_has_16 rfl ?_
      exact W.zret (v := b2i false) hx hb hrt (b2i_nar _) (fun t ht hW => ⟨_, rfl, by rw [f_U_has, if_neg h1, if_pos h9], ht⟩) (fun q h => by cases h) d_U_has_17
    ·
      refine lv_iconst (v := 1) hx hb d_U_has_12 rfl ?_
      refine lv_goto (tgt := 17) hx hb d_U_has_13 rfl ?_
      exact W.zret (v := b2i true) hx hb hrt (b2i_nar _) (fun t ht hW => ⟨_, rfl, by rw [f_U_has, if_neg h1, if_neg h9], ht⟩) (fun q h => by cases h) d_U_has_17
abbrev rm_W_hasBegun : Room := { frames := 1, cells := 0, slots := 0, locals := 22 }
def f_W_hasBegun (A : St) (i : Nat) (x : Int32) : Bool :=
  (f_T_isWithin x 0 ((nI (sA_sg A i)) - 1))
set_option maxRecDepth 20000 in
set_option maxHeartbeats 4000000 in
theorem c_W_hasBegun (l : Launch) (X : Xt) (G : Gc) (A : St) (i : Nat) (hi : i < sA_n A) (x : Int32) : Met l y_W_hasBegun (Cond.code y_W_hasBegun b_W_hasBegun 2 (some .boolean) :: WA) rm_W_hasBegun (va_Pc [.ref (gA_ad G (18 + 4 * i)), .int x] (fun U => PR X G A U.heap ∧ KK X U)) (vp_Si (fun ans => ans = b2i (f_W_hasBegun A i x))) 0 0 (fun _ => False) := by
  refine vx_met (cc := b_W_hasBegun) (maxL := 2) (ret := (some .boolean)) (by decide) rfl (Nat.le_of_ble_eq_true rfl) ?_
  intro p e s m below meth c ls hx hb hrt hts hown hlocks hname hml hB hl
  obtain ⟨hP, hK⟩ := hB
  have hown : s.vm.findClass R_Wafer = some m.cls := hown
  have hl : lv_has ls 2 [(0, .ref (gA_ad G (18 + 4 * i))), (1, .int x)] := hl
  have hP : va_P X.1 classes (cw X G A) s.heap := hP
  refine lv_iload_n hx hb d_W_hasBegun_0 rfl (lv_at hl 1 rfl) ?_
  refine lv_iconst (v := 0) hx hb d_W_hasBegun_1 rfl ?_
  refine lv_aload_n hx hb d_W_hasBegun_2 rfl (lv_at hl 0 rfl) ?_
  refine va_get (D := X.1) (ci := 5) (C := R_Wafer) (T := F_Wafer) (N := 10) hx hb hts hin_Wafer hown hK.1 hP (18 + 4 * i) (cw_w hi) rfl 5 (by decide) (hts _ (wd_1 145 rfl rfl)) (fun _ h9 => h9) rfl d_W_hasBegun_3 ?_
  refine lv_iconst (v := 1) hx hb d_W_hasBegun_6 rfl ?_
  refine lv_isub hx hb d_W_hasBegun_7 ?_
  refine vp_callSi (va_Run.call (va_runSN (As := [.int x, .int 0, .int ((nI (sA_sg A i)) - 1)]) (rest := []) ⟨hx, hb, hml, hown, hts⟩ (c_T_isWithin l X x 0 ((nI (sA_sg A i)) - 1)) ⟨va_cnB 3 hts (gC (wd_1 120 rfl rfl) rfl) rfl rfl rfl (hK.2.1 _ (List.mem_of_getElem? (i := 19) rfl)) (hts _ (wd_1 1 rfl rfl)) hd_T_isWithin ⟨Nat.le_of_ble_eq_true rfl, Nat.le_of_ble_eq_true rfl⟩, hts _ (wd_1 119 rfl rfl), trivial⟩ (vx_preS (P := fun _ => True) trivial hK) rfl rfl hl.1 rfl (lv_room (Nat.le_of_ble_eq_true rfl)) d_W_hasBegun_8 ⟨Nat.zero_le _, Nat.zero_le _⟩)) (fun r8 e8 => ?_)
  subst e8
  exact W.zret (v := b2i (f_T_isWithin x 0 ((nI (sA_sg A i)) - 1))) hx hb hrt (b2i_nar _) (fun t ht hW => ⟨_, rfl, by rw [f_W_hasBegun], ht⟩) (fun q h => by cases h) d_W_hasBegun_11
abbrev rm_T_waferOf : Room := { frames := 1, cells := 0, slots := 0, locals := 22 }
def f_T_waferOf (A : St) (x : Int32) : Option Nat :=
  if (f_T_isWithin x 0 ((nI (sA_n A)) - 1)) then
    some x.toNatClampNeg
  else
    none
set_option maxRecDepth 20000 in
set_option maxHeartbeats 4000000 in
theorem c_T_waferOf (l : Launch) (X : Xt) (G : Gc) (A : St) (x : Int32) (hn : sA_n A ≤ 25) : Met l y_T_waferOf (Cond.code y_T_waferOf b_T_waferOf 2 (some (.object "ClusterTool$Wafer")) :: WA) rm_T_waferOf (va_Pc [.ref (gA_ad G 0), .int x] (fun U => PR X G A U.heap ∧ KK X U)) (va_Sq (fun ans => ans = (f_T_waferOf A x).map (fun j => gA_ad G (18 + 4 * j)))) 0 0 (fun _ => False) := by
  refine vx_met (cc := b_T_waferOf) (maxL := 2) (ret := (some (.object "ClusterTool$Wafer"))) (by decide) rfl (Nat.le_of_ble_eq_true rfl) ?_
  intro p e s m below meth c ls hx hb hrt hts hown hlocks hname hml hB hl
  obtain ⟨hP, hK⟩ := hB
  have hown : s.vm.findClass R_ClusterTool = some m.cls := hown
  have hl : lv_has ls 2 [(0, .ref (gA_ad G 0)), (1, .int x)] := hl
  have hP : va_P X.1 classes (cw X G A) s.heap := hP
  refine lv_iload_n hx hb d_T_waferOf_0 rfl (lv_at hl 1 rfl) ?_
  refine lv_iconst (v := 0) hx hb d_T_waferOf_1 rfl ?_
  refine lv_aload_n hx hb d_T_waferOf_2 rfl (lv_at hl 0 rfl) ?_
  refine va_get (D := X.1) (ci := 0) (C := R_ClusterTool) (T := F_ClusterTool) (N := 8) hx hb hts hin_ClusterTool hown hK.1 hP 0 cw_0 rfl 6 (by decide) (hts _ (wd_1 91 rfl rfl)) (fun _ h9 => h9) rfl d_T_waferOf_3 ?_
  refine lv_iconst (v := 1) hx hb d_T_waferOf_6 rfl ?_
  refine lv_isub hx hb d_T_waferOf_7 ?_
  refine vp_callSi (W.runS (As := [.int x, .int 0, .int ((nI (sA_n A)) - 1)]) (rest := []) ⟨hx, hb, hml, hown, hts⟩ (c_T_isWithin l X x 0 ((nI (sA_n A)) - 1)) (va_cwS 3 hts (gT (wd_1 121 rfl rfl) (wd_1 119 rfl rfl) (wd_1 1 rfl rfl) (wd_1 120 rfl rfl)) rfl rfl rfl hd_T_isWithin ⟨Nat.le_of_ble_eq_true rfl, Nat.le_of_ble_eq_true rfl⟩) (vx_preS (P := fun _ => True) trivial hK) rfl rfl hl.1 rfl (lv_room (Nat.le_of_ble_eq_true rfl)) d_T_waferOf_8 ⟨Nat.zero_le _, Nat.zero_le _⟩) (fun r8 e8 => ?_)
  subst e8
  refine lv_if_eq (tgt := 23) hx hb d_T_waferOf_11 rfl (fun h11 => ?_) (fun h11 => ?_)
  ·
    have h11 := b2i_f h11
    refine lv_null hx hb d_T_waferOf_23 ?_
    exact W.aret (v := va_rf none) hx hb hrt (Or.inl ⟨_, rfl⟩) (Or.inl rfl) (fun t ht hW => ⟨_, rfl, by rw [f_T_waferOf, if_neg (nt_of h11)]; rfl, ht⟩) (fun q h => by cases h) d_T_waferOf_24
  ·
    have h11 := b2i_t h11
    refine lv_aload_n hx hb d_T_waferOf_14 rfl (lv_at hl 0 rfl) ?_
    refine va_get (D := X.1) (ci := 0) (C := R_ClusterTool) (T := F_ClusterTool) (N := 8) hx hb hts hin_ClusterTool hown hK.1 hP 0 cw_0 rfl 4 (by decide) (hts _ (wd_1 89 rfl rfl)) (fun _ h9 => h9) rfl d_T_waferOf_15 ?_
    refine lv_iload_n hx hb d_T_waferOf_18 rfl (lv_at hl 1 rfl) ?_
    refine va_aldq hx hb hK.1 hP 5 3 cw_5 rfl (within_in h11 (by rw [nI_m1 (by omega)]; omega)) d_T_waferOf_19 ?_
    rw [wRefs_at (vp_clamp (within_in h11 (by rw [nI_m1 (by omega)]; omega)))]
    refine lv_goto (tgt := 24) hx hb d_T_waferOf_20 rfl ?_
    exact W.aret (v := va_rf (some (gA_ad G (18 + 4 * x.toNatClampNeg)))) hx hb hrt (Or.inl ⟨_, rfl⟩) (Or.inr ⟨_, rfl⟩) (fun t ht hW => ⟨_, rfl, by rw [f_T_waferOf, if_pos h11]; rfl, ht⟩) (fun q h => by cases h) d_T_waferOf_24
