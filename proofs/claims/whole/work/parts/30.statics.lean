abbrev rm_T_isWithin : Room := { frames := 0, cells := 0, slots := 0, locals := 0 }
def f_T_isWithin (x : Int32) (lo : Int32) (hi : Int32) : Bool :=
  if x < lo then
    false
  else
    if hi < x then
      false
    else
      true
set_option maxRecDepth 20000 in
set_option maxHeartbeats 4000000 in
theorem c_T_isWithin (l : Launch) (X : Xt) (x : Int32) (lo : Int32) (hi : Int32) : Met l y_T_isWithin (Cond.code y_T_isWithin b_T_isWithin 3 (some .boolean) :: WA) rm_T_isWithin (va_Pc [.int x, .int lo, .int hi] (fun U => True ∧ KK X U)) (vp_Si (fun ans => ans = b2i (f_T_isWithin x lo hi))) 0 0 (fun _ => False) := by
  refine vx_met (cc := b_T_isWithin) (maxL := 3) (ret := (some .boolean)) (by decide) rfl (Nat.le_of_ble_eq_true rfl) ?_
  intro p e s m below meth c ls hx hb hrt hts hown hlocks hname hml hB hl
  obtain ⟨hP, hK⟩ := hB
  have hown : s.vm.findClass R_ClusterTool = some m.cls := hown
  have hl : lv_has ls 3 [(0, .int x), (1, .int lo), (2, .int hi)] := hl
  refine lv_iload_n hx hb d_T_isWithin_0 rfl (lv_at hl 0 rfl) ?_
  refine lv_iload_n hx hb d_T_isWithin_1 rfl (lv_at hl 1 rfl) ?_
  refine lv_icmp_lt (tgt := 14) hx hb d_T_isWithin_2 rfl (fun h2 => ?_) (fun h2 => ?_)
  ·
    refine lv_iconst (v := 0) hx hb d_T_isWithin_14 rfl ?_
    exact W.zret (v := b2i false) hx hb hrt (b2i_nar _) (fun t ht hW => ⟨_, rfl, by rw [f_T_isWithin, if_pos h2], ht⟩) (fun q h => by cases h) d_T_isWithin_15
  ·
    refine lv_iload_n hx hb d_T_isWithin_5 rfl (lv_at hl 0 rfl) ?_
    refine lv_iload_n hx hb d_T_isWithin_6 rfl (lv_at hl 2 rfl) ?_
    refine lv_icmp_gt (tgt := 14) hx hb d_T_isWithin_7 rfl (fun h7 => ?_) (fun h7 => ?_)
    ·
      refine lv_iconst (v := 0) hx hb d_T_isWithin_14 rfl ?_
      exact W.zret (v := b2i false) hx hb hrt (b2i_nar _) (fun t ht hW => ⟨_, rfl, by rw [f_T_isWithin, if_neg h2, if_pos h7], ht⟩) (fun q h => by cases h) d_T_isWithin_15
    ·
      refine lv_iconst (v := 1) hx hb d_T_isWithin_10 rfl ?_
      refine lv_goto (tgt := 15) hx hb d_T_isWithin_11 rfl ?_
      exact W.zret (v := b2i true) hx hb hrt (b2i_nar _) (fun t ht hW => ⟨_, rfl, by rw [f_T_isWithin, if_neg h2, if_neg h7], ht⟩) (fun q h => by cases h) d_T_isWithin_15
abbrev rm_Y_isBack : Room := { frames := 0, cells := 0, slots := 0, locals := 0 }
def f_Y_isBack (x : Int32) : Bool :=
  if x = 2 then
    true
  else
    if x = 3 then
      true
    else
      false
set_option maxRecDepth 20000 in
set_option maxHeartbeats 4000000 in
theorem c_Y_isBack (l : Launch) (X : Xt) (x : Int32) : Met l y_Y_isBack (Cond.code y_Y_isBack b_Y_isBack 1 (some .boolean) :: WA) rm_Y_isBack (va_Pc [.int x] (fun U => True ∧ KK X U)) (vp_Si (fun ans => ans = b2i (f_Y_isBack x))) 0 0 (fun _ => False) := by
  refine vx_met (cc := b_Y_isBack) (maxL := 1) (ret := (some .boolean)) (by decide) rfl (Nat.le_of_ble_eq_true rfl) ?_
  intro p e s m below meth c ls hx hb hrt hts hown hlocks hname hml hB hl
  obtain ⟨hP, hK⟩ := hB
  have hown : s.vm.findClass R_Ways = some m.cls := hown
  have hl : lv_has ls 1 [(0, .int x)] := hl
  refine lv_iload_n hx hb d_Y_isBack_0 rfl (lv_at hl 0 rfl) ?_
  refine lv_iconst (v := 2) hx hb d_Y_isBack_1 rfl ?_
  refine lv_icmp_eq (tgt := 10) hx hb d_Y_isBack_2 rfl (fun h2 => ?_) (fun h2 => ?_)
  ·
    refine lv_iconst (v := 1) hx hb d_Y_isBack_10 rfl ?_
    refine lv_goto (tgt := 15) hx hb d_Y_isBack_11 rfl ?_
    exact W.zret (v := b2i true) hx hb hrt (b2i_nar _) (fun t ht hW => ⟨_, rfl, by rw [f_Y_isBack, if_pos h2], ht⟩) (fun q h => by cases h) d_Y_isBack_15
  ·
    refine lv_iload_n hx hb d_Y_isBack_5 rfl (lv_at hl 0 rfl) ?_
    refine lv_iconst (v := 3) hx hb d_Y_isBack_6 rfl ?_
    refine lv_icmp_ne (tgt := 14) hx hb d_Y_isBack_7 rfl (fun h7 => ?_) (fun h7 => ?_)
    ·
      refine lv_iconst (v := 0) hx hb d_Y_isBack_14 rfl ?_
      exact W.zret (v := b2i false) hx hb hrt (b2i_nar _) (fun t ht hW => ⟨_, rfl, by rw [f_Y_isBack, if_neg h2, if_neg h7], ht⟩) (fun q h => by cases h) d_Y_isBack_15
    ·
      refine lv_iconst (v := 1) hx hb d_Y_isBack_10 rfl ?_
      refine lv_goto (tgt := 15) hx hb d_Y_isBack_11 rfl ?_
      exact W.zret (v := b2i true) hx hb hrt (b2i_nar _) (fun t ht hW => ⟨_, rfl, by rw [f_Y_isBack, if_neg h2, if_pos h7], ht⟩) (fun q h => by cases h) d_Y_isBack_15
abbrev rm_Y_isReach : Room := { frames := 0, cells := 0, slots := 0, locals := 0 }
def f_Y_isReach (x : Int32) (y : Int32) : Bool :=
  if (51 &&& (((1 : Int32) <<< (x &&& 31)) ||| ((1 : Int32) <<< (y &&& 31)))) = (((1 : Int32) <<< (x &&& 31)) ||| ((1 : Int32) <<< (y &&& 31))) then
    true
  else
    if (28 &&& (((1 : Int32) <<< (x &&& 31)) ||| ((1 : Int32) <<< (y &&& 31)))) = (((1 : Int32) <<< (x &&& 31)) ||| ((1 : Int32) <<< (y &&& 31))) then
      true
    else
      false
set_option maxRecDepth 20000 in
set_option maxHeartbeats 4000000 in
theorem c_Y_isReach (l : Launch) (X : Xt) (x : Int32) (y : Int32) : Met l y_Y_isReach (Cond.code y_Y_isReach b_Y_isReach 3 (some .boolean) :: WA) rm_Y_isReach (va_Pc [.int x, .int y] (fun U => True ∧ KK X U)) (vp_Si (fun ans => ans = b2i (f_Y_isReach x y))) 0 0 (fun _ => False) := by
  refine vx_met (cc := b_Y_isReach) (maxL := 3) (ret := (some .boolean)) (by decide) rfl (Nat.le_of_ble_eq_true rfl) ?_
  intro p e s m below meth c ls hx hb hrt hts hown hlocks hname hml hB hl
  obtain ⟨hP, hK⟩ := hB
  have hown : s.vm.findClass R_Ways = some m.cls := hown
  have hl : lv_has ls 3 [(0, .int x), (1, .int y)] := hl
  refine lv_iconst (v := 1) hx hb d_Y_isReach_0 rfl ?_
  refine lv_iload_n hx hb d_Y_isReach_1 rfl (lv_at hl 0 rfl) ?_
  refine lv_ishl hx hb d_Y_isReach_2 ?_
  refine lv_iconst (v := 1) hx hb d_Y_isReach_3 rfl ?_
  refine lv_iload_n hx hb d_Y_isReach_4 rfl (lv_at hl 1 rfl) ?_
  refine lv_ishl hx hb d_Y_isReach_5 ?_
  refine lv_ior hx hb d_Y_isReach_6 ?_
  refine lv_istore_n (lv' := [(2, .int (((1 : Int32) <<< (x &&& 31)) ||| ((1 : Int32) <<< (y &&& 31)))), (0, .int x), (1, .int y)]) hx hb d_Y_isReach_7 rfl hl (by decide) rfl (fun ls hl => ?_)
  refine lv_bipush (v := 51) hx hb d_Y_isReach_8 rfl ?_
  refine lv_iload_n hx hb d_Y_isReach_10 rfl (lv_at hl 0 rfl) ?_
  refine lv_iand hx hb d_Y_isReach_11 ?_
  refine lv_iload_n hx hb d_Y_isReach_12 rfl (lv_at hl 0 rfl) ?_
  refine lv_icmp_eq (tgt := 24) hx hb d_Y_isReach_13 rfl (fun h13 => ?_) (fun h13 => ?_)
  ·
    refine lv_iconst (v := 1) hx hb d_Y_isReach_24 rfl ?_
    refine lv_goto (tgt := 29) hx hb d_Y_isReach_25 rfl ?_
    exact W.zret (v := b2i true) hx hb hrt (b2i_nar _) (fun t ht hW => ⟨_, rfl, by rw [f_Y_isReach, if_pos h13], ht⟩) (fun q h => by cases h) d_Y_isReach_29
  ·
    refine lv_bipush (v := 28) hx hb d_Y_isReach_16 rfl ?_
    refine lv_iload_n hx hb d_Y_isReach_18 rfl (lv_at hl 0 rfl) ?_
    refine lv_iand hx hb d_Y_isReach_19 ?_
    refine lv_iload_n hx hb d_Y_isReach_20 rfl (lv_at hl 0 rfl) ?_
    refine lv_icmp_ne (tgt := 28) hx hb d_Y_isReach_21 rfl (fun h21 => ?_) (fun h21 => ?_)
    ·
      refine lv_iconst (v := 0) hx hb d_Y_isReach_28 rfl ?_
      exact W.zret (v := b2i false) hx hb hrt (b2i_nar _) (fun t ht hW => ⟨_, rfl, by rw [f_Y_isReach, if_neg h13, if_neg h21], ht⟩) (fun q h => by cases h) d_Y_isReach_29
    ·
      refine lv_iconst (v := 1) hx hb d_Y_isReach_24 rfl ?_
      refine lv_goto (tgt := 29) hx hb d_Y_isReach_25 rfl ?_
      exact W.zret (v := b2i true) hx hb hrt (b2i_nar _) (fun t ht hW => ⟨_, rfl, by rw [f_Y_isReach, if_neg h13, if_pos h21], ht⟩) (fun q h => by cases h) d_Y_isReach_29
abbrev rm_Y_isHomeward : Room := { frames := 1, cells := 0, slots := 0, locals := 20 }
def f_Y_isHomeward (x : Int32) (y : Int32) : Bool :=
  if y = 5 then
    if x = 5 then
      false
    else
      true
  else
    if y = 4 then
      if (f_Y_isBack x) then
        true
      else
        false
    else
      false
set_option maxRecDepth 20000 in
set_option maxHeartbeats 4000000 in
theorem c_Y_isHomeward (l : Launch) (X : Xt) (x : Int32) (y : Int32) : Met l y_Y_isHomeward (Cond.code y_Y_isHomeward b_Y_isHomeward 2 (some .boolean) :: WA) rm_Y_isHomeward (va_Pc [.int x, .int y] (fun U => True ∧ KK X U)) (vp_Si (fun ans => ans = b2i (f_Y_isHomeward x y))) 0 0 (fun _ => False) := by
  refine vx_met (cc := b_Y_isHomeward) (maxL := 2) (ret := (some .boolean)) (by decide) rfl (Nat.le_of_ble_eq_true rfl) ?_
  intro p e s m below meth c ls hx hb hrt hts hown hlocks hname hml hB hl
  obtain ⟨hP, hK⟩ := hB
  have hown : s.vm.findClass R_Ways = some m.cls := hown
  have hl : lv_has ls 2 [(0, .int x), (1, .int y)] := hl
  refine lv_iload_n hx hb d_Y_isHomeward_0 rfl (lv_at hl 1 rfl) ?_
  refine lv_iconst (v := 5) hx hb d_Y_isHomeward_1 rfl ?_
  refine lv_icmp_ne (tgt := 18) hx hb d_Y_isHomeward_2 rfl (fun h2 => ?_) (fun h2 => ?_)
  ·
    refine lv_iload_n hx hb d_Y_isHomeward_18 rfl (lv_at hl 1 rfl) ?_
    refine lv_iconst (v := 4) hx hb d_Y_isHomeward_19 rfl ?_
    refine lv_icmp_ne (tgt := 34) hx hb d_Y_isHomeward_20 rfl (fun h20 => ?_) (fun h20 => ?_)
    ·
      refine lv_iconst (v := 0) hx hb d_Y_isHomeward_34 rfl ?_
      exact W.zret (v := b2i false) hx hb hrt (b2i_nar _) (fun t ht hW => ⟨_, rfl, by rw [f_Y_isHomeward, if_neg h2, if_neg h20], ht⟩) (fun q h => by cases h) d_Y_isHomeward_35
    ·
      refine lv_iload_n hx hb d_Y_isHomeward_23 rfl (lv_at hl 0 rfl) ?_
      refine vp_callSi (W.runS (As := [.int x]) (rest := []) ⟨hx, hb, hml, hown, hts⟩ (c_Y_isBack l X x) (va_cwS 1 hts (gT (wd_1 207 rfl rfl) (wd_1 208 rfl rfl) (wd_1 2 rfl rfl) (wd_1 209 rfl rfl)) rfl rfl rfl hd_Y_isBack ⟨Nat.le_of_ble_eq_true rfl, Nat.le_of_ble_eq_true rfl⟩) (vx_preS (P := fun _ => True) trivial hK) rfl rfl hl.1 rfl (lv_room (Nat.le_of_ble_eq_true rfl)) d_Y_isHomeward_24 ⟨Nat.zero_le _, Nat.zero_le _⟩) (fun r24 e24 => ?_)
      subst e24
      refine lv_if_eq (tgt := 34) hx hb d_Y_isHomeward_27 rfl (fun h27 => ?_) (fun h27 => ?_)
      ·
        have h27 := b2i_f h27
        refine lv_iconst (v := 0) hx hb d_Y_isHomeward_34 rfl ?_
        exact W.zret (v := b2i false) hx hb hrt (b2i_nar _) (fun t ht hW => ⟨_, rfl, by rw [f_Y_isHomeward, if_neg h2, if_pos h20, if_neg (nt_of h27)], ht⟩) (fun q h => by cases h) d_Y_isHomeward_35
      ·
        have h27 := b2i_t h27
        refine lv_iconst (v := 1) hx hb d_Y_isHomeward_30 rfl ?_
        refine lv_goto (tgt := 35) hx hb d_Y_isHomeward_31 rfl ?_
        exact W.zret (v := b2i true) hx hb hrt (b2i_nar _) (fun t ht hW => ⟨_, rfl, by rw [f_Y_isHomeward, if_neg h2, if_pos h20, if_pos h27], ht⟩) (fun q h => by cases h) d_Y_isHomeward_35
  ·
    refine lv_iload_n hx hb d_Y_isHomeward_5 rfl (lv_at hl 0 rfl) ?_
    refine lv_iconst (v := 5) hx hb d_Y_isHomeward_6 rfl ?_
    refine lv_icmp_eq (tgt := 14) hx hb d_Y_isHomeward_7 rfl (fun h7 => ?_) (fun h7 => ?_)
    ·
      refine lv_iconst (v := 0) hx hb d_Y_isHomeward_14 rfl ?_
      refine lv_goto (tgt := 35) hx hb d_Y_isHomeward_15 rfl ?_
      exact W.zret (v := b2i false) hx hb hrt (b2i_nar _) (fun t ht hW => ⟨_, rfl, by rw [f_Y_isHomeward, if_pos h2, if_pos h7], ht⟩) (fun q h => by cases h) d_Y_isHomeward_35
    ·
      refine lv_iconst (v := 1) hx hb d_Y_isHomeward_10 rfl ?_
      refine lv_goto (tgt := 35) hx hb d_Y_isHomeward_11 rfl ?_
      exact W.zret (v := b2i true) hx hb hrt (b2i_nar _) (fun t ht hW => ⟨_, rfl, by rw [f_Y_isHomeward, if_pos h2, if_neg h7], ht⟩) (fun q h => by cases h) d_Y_isHomeward_35
abbrev rm_Y_beyond : Room := { frames := 1, cells := 0, slots := 0, locals := 20 }
def f_Y_beyond (x : Int32) : Int32 :=
  if x = 4 then
    0
  else
    if (f_Y_isBack x) then
      3
    else
      12
set_option maxRecDepth 20000 in
set_option maxHeartbeats 4000000 in
theorem c_Y_beyond (l : Launch) (X : Xt) (x : Int32) : Met l y_Y_beyond (Cond.code y_Y_beyond b_Y_beyond 1 (some .int) :: WA) rm_Y_beyond (va_Pc [.int x] (fun U => True ∧ KK X U)) (vp_Si (fun ans => ans = f_Y_beyond x)) 0 0 (fun _ => False) := by
  refine vx_met (cc := b_Y_beyond) (maxL := 1) (ret := (some .int)) (by decide) rfl (Nat.le_of_ble_eq_true rfl) ?_
  intro p e s m below meth c ls hx hb hrt hts hown hlocks hname hml hB hl
  obtain ⟨hP, hK⟩ := hB
  have hown : s.vm.findClass R_Ways = some m.cls := hown
  have hl : lv_has ls 1 [(0, .int x)] := hl
  refine lv_iload_n hx hb d_Y_beyond_0 rfl (lv_at hl 0 rfl) ?_
  refine lv_iconst (v := 4) hx hb d_Y_beyond_1 rfl ?_
  refine lv_icmp_ne (tgt := 7) hx hb d_Y_beyond_2 rfl (fun h2 => ?_) (fun h2 => ?_)
  ·
    refine lv_iload_n hx hb d_Y_beyond_7 rfl (lv_at hl 0 rfl) ?_
    refine vp_callSi (W.runS (As := [.int x]) (rest := []) ⟨hx, hb, hml, hown, hts⟩ (c_Y_isBack l X x) (va_cwS 1 hts (gT (wd_1 207 rfl rfl) (wd_1 208 rfl rfl) (wd_1 2 rfl rfl) (wd_1 209 rfl rfl)) rfl rfl rfl hd_Y_isBack ⟨Nat.le_of_ble_eq_true rfl, Nat.le_of_ble_eq_true rfl⟩) (vx_preS (P := fun _ => True) trivial hK) rfl rfl hl.1 rfl (lv_room (Nat.le_of_ble_eq_true rfl)) d_Y_beyond_8 ⟨Nat.zero_le _, Nat.zero_le _⟩) (fun r8 e8 => ?_)
    subst e8
    refine lv_if_eq (tgt := 18) hx hb d_Y_beyond_11 rfl (fun h11 => ?_) (fun h11 => ?_)
    ·
      have h11 := b2i_f h11
      refine lv_bipush (v := 12) hx hb d_Y_beyond_18 rfl ?_
      exact W.iret (v := 12) hx hb hrt (fun t ht hW => ⟨_, rfl, by rw [f_Y_beyond, if_neg h2, if_neg (nt_of h11)], ht⟩) (fun q h => by cases h) d_Y_beyond_20
    ·
      have h11 := b2i_t h11
      refine lv_iconst (v := 3) hx hb d_Y_beyond_14 rfl ?_
      refine lv_goto (tgt := 20) hx hb d_Y_beyond_15 rfl ?_
      exact W.iret (v := 3) hx hb hrt (fun t ht hW => ⟨_, rfl, by rw [f_Y_beyond, if_neg h2, if_pos h11], ht⟩) (fun q h => by cases h) d_Y_beyond_20
  ·
    refine lv_iconst (v := 0) hx hb d_Y_beyond_5 rfl ?_
    exact W.iret (v := 0) hx hb hrt (fun t ht hW => ⟨_, rfl, by rw [f_Y_beyond, if_pos h2], ht⟩) (fun q h => by cases h) d_Y_beyond_6
abbrev rm_S_with : Room := { frames := 0, cells := 0, slots := 0, locals := 0 }
def f_S_with (k : Int32) (x : Int32) (r : Int32) (g : Int32) : Int32 :=
  if x = 4 then
    (k ||| (((8 ||| (r <<< ((2 : Int32) &&& 31))) ||| g) <<< ((3 * x) &&& 31)))
  else
    (k ||| (((0 ||| (r <<< ((2 : Int32) &&& 31))) ||| g) <<< ((3 * x) &&& 31)))
set_option maxRecDepth 20000 in
set_option maxHeartbeats 4000000 in
theorem c_S_with (l : Launch) (X : Xt) (k : Int32) (x : Int32) (r : Int32) (g : Int32) : Met l y_S_with (Cond.code y_S_with b_S_with 5 (some .int) :: WA) rm_S_with (va_Pc [.int k, .int x, .int r, .int g] (fun U => True ∧ KK X U)) (vp_Si (fun ans => ans = f_S_with k x r g)) 0 0 (fun _ => False) := by
  refine vx_met (cc := b_S_with) (maxL := 5) (ret := (some .int)) (by decide) rfl (Nat.le_of_ble_eq_true rfl) ?_
  intro p e s m below meth c ls hx hb hrt hts hown hlocks hname hml hB hl
  obtain ⟨hP, hK⟩ := hB
  have hown : s.vm.findClass R_Situation = some m.cls := hown
  have hl : lv_has ls 5 [(0, .int k), (1, .int x), (2, .int r), (3, .int g)] := hl
  refine lv_iload_n hx hb d_S_with_0 rfl (lv_at hl 1 rfl) ?_
  refine lv_iconst (v := 4) hx hb d_S_with_1 rfl ?_
  refine lv_icmp_ne (tgt := 10) hx hb d_S_with_2 rfl (fun h2 => ?_) (fun h2 => ?_)
  ·
    refine lv_iconst (v := 0) hx hb d_S_with_10 rfl ?_
    refine lv_iload_n hx hb d_S_with_11 rfl (lv_at hl 2 rfl) ?_
    refine lv_iconst (v := 2) hx hb d_S_with_12 rfl ?_
    refine lv_ishl hx hb d_S_with_13 ?_
    refine lv_ior hx hb d_S_with_14 ?_
    refine lv_iload_n hx hb d_S_with_15 rfl (lv_at hl 3 rfl) ?_
    refine lv_ior hx hb d_S_with_16 ?_
    refine lv_istore (lv' := [(4, .int ((0 ||| (r <<< ((2 : Int32) &&& 31))) ||| g)), (0, .int k), (1, .int x), (2, .int r), (3, .int g)]) hx hb d_S_with_17 hl (by decide) rfl (fun ls hl => ?_)
    refine lv_iload_n hx hb d_S_with_19 rfl (lv_at hl 1 rfl) ?_
    refine lv_iload hx hb d_S_with_20 (lv_at hl 0 rfl) ?_
    refine lv_iconst (v := 3) hx hb d_S_with_22 rfl ?_
    refine lv_iload_n hx hb d_S_with_23 rfl (lv_at hl 2 rfl) ?_
    refine lv_imul hx hb d_S_with_24 ?_
    refine lv_ishl hx hb d_S_with_25 ?_
    refine lv_ior hx hb d_S_with_26 ?_
    exact W.iret (v := (k ||| (((0 ||| (r <<< ((2 : Int32) &&& 31))) ||| g) <<< ((3 * x) &&& 31)))) hx hb hrt (fun t ht hW => ⟨_, rfl, by rw [f_S_with, if_neg h2], ht⟩) (fun q h => by cases h) d_S_with_27
  ·
    refine lv_bipush (v := 8) hx hb d_S_with_5 rfl ?_
    refine lv_goto (tgt := 11) hx hb d_S_with_7 rfl ?_
    refine lv_iload_n hx hb d_S_with_11 rfl (lv_at hl 2 rfl) ?_
    refine lv_iconst (v := 2) hx hb d_S_with_12 rfl ?_
    refine lv_ishl hx hb d_S_with_13 ?_
    refine lv_ior hx hb d_S_with_14 ?_
    refine lv_iload_n hx hb d_S_with_15 rfl (lv_at hl 3 rfl) ?_
    refine lv_ior hx hb d_S_with_16 ?_
    refine lv_istore (lv' := [(4, .int ((8 ||| (r <<< ((2 : Int32) &&& 31))) ||| g)), (0, .int k), (1, .int x), (2, .int r), (3, .int g)]) hx hb d_S_with_17 hl (by decide) rfl (fun ls hl => ?_)
    refine lv_iload_n hx hb d_S_with_19 rfl (lv_at hl 1 rfl) ?_
    refine lv_iload hx hb d_S_with_20 (lv_at hl 0 rfl) ?_
    refine lv_iconst (v := 3) hx hb d_S_with_22 rfl ?_
    refine lv_iload_n hx hb d_S_with_23 rfl (lv_at hl 2 rfl) ?_
    refine lv_imul hx hb d_S_with_24 ?_
    refine lv_ishl hx hb d_S_with_25 ?_
    refine lv_ior hx hb d_S_with_26 ?_
    exact W.iret (v := (k ||| (((8 ||| (r <<< ((2 : Int32) &&& 31))) ||| g) <<< ((3 * x) &&& 31)))) hx hb hrt (fun t ht hW => ⟨_, rfl, by rw [f_S_with, if_pos h2], ht⟩) (fun q h => by cases h) d_S_with_27
abbrev rm_S_markAt : Room := { frames := 0, cells := 0, slots := 0, locals := 0 }
def f_S_markAt (k : Int32) (x : Int32) : Int32 :=
  if x = 4 then
    ((k >>> ((3 * x) &&& 31)) &&& 15)
  else
    ((k >>> ((3 * x) &&& 31)) &&& 7)
set_option maxRecDepth 20000 in
set_option maxHeartbeats 4000000 in
theorem c_S_markAt (l : Launch) (X : Xt) (k : Int32) (x : Int32) : Met l y_S_markAt (Cond.code y_S_markAt b_S_markAt 2 (some .int) :: WA) rm_S_markAt (va_Pc [.int k, .int x] (fun U => True ∧ KK X U)) (vp_Si (fun ans => ans = f_S_markAt k x)) 0 0 (fun _ => False) := by
  refine vx_met (cc := b_S_markAt) (maxL := 2) (ret := (some .int)) (by decide) rfl (Nat.le_of_ble_eq_true rfl) ?_
  intro p e s m below meth c ls hx hb hrt hts hown hlocks hname hml hB hl
  obtain ⟨hP, hK⟩ := hB
  have hown : s.vm.findClass R_Situation = some m.cls := hown
  have hl : lv_has ls 2 [(0, .int k), (1, .int x)] := hl
  refine lv_iload_n hx hb d_S_markAt_0 rfl (lv_at hl 0 rfl) ?_
  refine lv_iconst (v := 3) hx hb d_S_markAt_1 rfl ?_
  refine lv_iload_n hx hb d_S_markAt_2 rfl (lv_at hl 1 rfl) ?_
  refine lv_imul hx hb d_S_markAt_3 ?_
  refine lv_ishr hx hb d_S_markAt_4 ?_
  refine lv_iload_n hx hb d_S_markAt_5 rfl (lv_at hl 1 rfl) ?_
  refine lv_iconst (v := 4) hx hb d_S_markAt_6 rfl ?_
  refine lv_icmp_ne (tgt := 15) hx hb d_S_markAt_7 rfl (fun h7 => ?_) (fun h7 => ?_)
  ·
    refine lv_bipush (v := 7) hx hb d_S_markAt_15 rfl ?_
    refine lv_iand hx hb d_S_markAt_17 ?_
    exact W.iret (v := ((k >>> ((3 * x) &&& 31)) &&& 7)) hx hb hrt (fun t ht hW => ⟨_, rfl, by rw [f_S_markAt, if_neg h7], ht⟩) (fun q h => by cases h) d_S_markAt_18
  ·
    refine lv_bipush (v := 15) hx hb d_S_markAt_10 rfl ?_
    refine lv_goto (tgt := 17) hx hb d_S_markAt_12 rfl ?_
    refine lv_iand hx hb d_S_markAt_17 ?_
    exact W.iret (v := ((k >>> ((3 * x) &&& 31)) &&& 15)) hx hb hrt (fun t ht hW => ⟨_, rfl, by rw [f_S_markAt, if_pos h7], ht⟩) (fun q h => by cases h) d_S_markAt_18
abbrev rm_S_routeIn : Room := { frames := 0, cells := 0, slots := 0, locals := 0 }
def f_S_routeIn (k : Int32) : Int32 :=
  ((k >>> ((2 : Int32) &&& 31)) &&& 1)
set_option maxRecDepth 20000 in
set_option maxHeartbeats 4000000 in
theorem c_S_routeIn (l : Launch) (X : Xt) (k : Int32) : Met l y_S_routeIn (Cond.code y_S_routeIn b_S_routeIn 1 (some .int) :: WA) rm_S_routeIn (va_Pc [.int k] (fun U => True ∧ KK X U)) (vp_Si (fun ans => ans = f_S_routeIn k)) 0 0 (fun _ => False) := by
  refine vx_met (cc := b_S_routeIn) (maxL := 1) (ret := (some .int)) (by decide) rfl (Nat.le_of_ble_eq_true rfl) ?_
  intro p e s m below meth c ls hx hb hrt hts hown hlocks hname hml hB hl
  obtain ⟨hP, hK⟩ := hB
  have hown : s.vm.findClass R_Situation = some m.cls := hown
  have hl : lv_has ls 1 [(0, .int k)] := hl
  refine lv_iload_n hx hb d_S_routeIn_0 rfl (lv_at hl 0 rfl) ?_
  refine lv_iconst (v := 2) hx hb d_S_routeIn_1 rfl ?_
  refine lv_ishr hx hb d_S_routeIn_2 ?_
  refine lv_iconst (v := 1) hx hb d_S_routeIn_3 rfl ?_
  refine lv_iand hx hb d_S_routeIn_4 ?_
  exact W.iret (v := ((k >>> ((2 : Int32) &&& 31)) &&& 1)) hx hb hrt (fun t ht hW => ⟨_, rfl, by rw [f_S_routeIn], ht⟩) (fun q h => by cases h) d_S_routeIn_5
abbrev rm_S_stageIn : Room := { frames := 0, cells := 0, slots := 0, locals := 0 }
def f_S_stageIn (k : Int32) : Int32 :=
  (k &&& 3)
set_option maxRecDepth 20000 in
set_option maxHeartbeats 4000000 in
theorem c_S_stageIn (l : Launch) (X : Xt) (k : Int32) : Met l y_S_stageIn (Cond.code y_S_stageIn b_S_stageIn 1 (some .int) :: WA) rm_S_stageIn (va_Pc [.int k] (fun U => True ∧ KK X U)) (vp_Si (fun ans => ans = f_S_stageIn k)) 0 0 (fun _ => False) := by
  refine vx_met (cc := b_S_stageIn) (maxL := 1) (ret := (some .int)) (by decide) rfl (Nat.le_of_ble_eq_true rfl) ?_
  intro p e s m below meth c ls hx hb hrt hts hown hlocks hname hml hB hl
  obtain ⟨hP, hK⟩ := hB
  have hown : s.vm.findClass R_Situation = some m.cls := hown
  have hl : lv_has ls 1 [(0, .int k)] := hl
  refine lv_iload_n hx hb d_S_stageIn_0 rfl (lv_at hl 0 rfl) ?_
  refine lv_iconst (v := 3) hx hb d_S_stageIn_1 rfl ?_
  refine lv_iand hx hb d_S_stageIn_2 ?_
  exact W.iret (v := (k &&& 3)) hx hb hrt (fun t ht hW => ⟨_, rfl, by rw [f_S_stageIn], ht⟩) (fun q h => by cases h) d_S_stageIn_3
abbrev rm_S_after : Room := { frames := 1, cells := 0, slots := 0, locals := 24 }
def f_S_after (k : Int32) (r : Int32) (g : Int32) (x : Int32) (y : Int32) : Int32 :=
  if x = 5 then
    if y = 5 then
      k
    else
      if 4 ≤ y then
        f_S_with k y r g
      else
        f_S_with k y r (g + 1)
  else
    if y = 5 then
      (k - ((f_S_markAt k x) <<< ((3 * x) &&& 31)))
    else
      if 4 ≤ y then
        f_S_with (k - ((f_S_markAt k x) <<< ((3 * x) &&& 31))) y r g
      else
        f_S_with (k - ((f_S_markAt k x) <<< ((3 * x) &&& 31))) y r (g + 1)
set_option maxRecDepth 20000 in
set_option maxHeartbeats 4000000 in
theorem c_S_after (l : Launch) (X : Xt) (k : Int32) (r : Int32) (g : Int32) (x : Int32) (y : Int32) : Met l y_S_after (Cond.code y_S_after b_S_after 6 (some .int) :: WA) rm_S_after (va_Pc [.int k, .int r, .int g, .int x, .int y] (fun U => True ∧ KK X U)) (vp_Si (fun ans => ans = f_S_after k r g x y)) 0 0 (fun _ => False) := by
  refine vx_met (cc := b_S_after) (maxL := 6) (ret := (some .int)) (by decide) rfl (Nat.le_of_ble_eq_true rfl) ?_
  intro p e s m below meth c ls hx hb hrt hts hown hlocks hname hml hB hl
  obtain ⟨hP, hK⟩ := hB
  have hown : s.vm.findClass R_Situation = some m.cls := hown
  have hl : lv_has ls 6 [(0, .int k), (1, .int r), (2, .int g), (3, .int x), (4, .int y)] := hl
  refine lv_iload_n hx hb d_S_after_0 rfl (lv_at hl 3 rfl) ?_
  refine lv_iconst (v := 5) hx hb d_S_after_1 rfl ?_
  refine lv_icmp_ne (tgt := 9) hx hb d_S_after_2 rfl (fun h2 => ?_) (fun h2 => ?_)
  ·
    refine lv_iload_n hx hb d_S_after_9 rfl (lv_at hl 0 rfl) ?_
    refine lv_iload_n hx hb d_S_after_10 rfl (lv_at hl 0 rfl) ?_
    refine lv_iload_n hx hb d_S_after_11 rfl (lv_at hl 3 rfl) ?_
    refine vp_callSi (W.runS (As := [.int k, .int x]) (rest := [.int k]) ⟨hx, hb, hml, hown, hts⟩ (c_S_markAt l X k x) (va_cwS 2 hts (gT (wd_1 232 rfl rfl) (wd_1 233 rfl rfl) (wd_1 8 rfl rfl) (wd_1 234 rfl rfl)) rfl rfl rfl hd_S_markAt ⟨Nat.le_of_ble_eq_true rfl, Nat.le_of_ble_eq_true rfl⟩) (vx_preS (P := fun _ => True) trivial hK) rfl rfl hl.1 rfl (lv_room (Nat.le_of_ble_eq_true rfl)) d_S_after_12 ⟨Nat.zero_le _, Nat.zero_le _⟩) (fun r12 e12 => ?_)
    subst e12
    refine lv_iconst (v := 3) hx hb d_S_after_15 rfl ?_
    refine lv_iload_n hx hb d_S_after_16 rfl (lv_at hl 3 rfl) ?_
    refine lv_imul hx hb d_S_after_17 ?_
    refine lv_ishl hx hb d_S_after_18 ?_
    refine lv_isub hx hb d_S_after_19 ?_
    refine lv_istore (lv' := [(5, .int (k - ((f_S_markAt k x) <<< ((3 * x) &&& 31)))), (0, .int k), (1, .int r), (2, .int g), (3, .int x), (4, .int y)]) hx hb d_S_after_20 hl (by decide) rfl (fun ls hl => ?_)
    refine lv_iload hx hb d_S_after_22 (lv_at hl 5 rfl) ?_
    refine lv_iconst (v := 5) hx hb d_S_after_24 rfl ?_
    refine lv_icmp_ne (tgt := 31) hx hb d_S_after_25 rfl (fun h25 => ?_) (fun h25 => ?_)
    ·
      refine lv_iload hx hb d_S_after_31 (lv_at hl 0 rfl) ?_
      refine lv_iload hx hb d_S_after_33 (lv_at hl 5 rfl) ?_
      refine lv_iload_n hx hb d_S_after_35 rfl (lv_at hl 2 rfl) ?_
      refine lv_iload hx hb d_S_after_36 (lv_at hl 5 rfl) ?_
      refine lv_iconst (v := 4) hx hb d_S_after_38 rfl ?_
      refine lv_icmp_ge (tgt := 48) hx hb d_S_after_39 rfl (fun h39 => ?_) (fun h39 => ?_)
      ·
        refine lv_iload_n hx hb d_S_after_48 rfl (lv_at hl 3 rfl) ?_
        refine vp_callSi (W.runS (As := [.int (k - ((f_S_markAt k x) <<< ((3 * x) &&& 31))), .int y, .int r, .int g]) (rest := []) ⟨hx, hb, hml, hown, hts⟩ (c_S_with l X (k - ((f_S_markAt k x) <<< ((3 * x) &&& 31))) y r g) (va_cwS 4 hts (gT (wd_1 235 rfl rfl) (wd_1 227 rfl rfl) (wd_1 8 rfl rfl) (wd_1 228 rfl rfl)) rfl rfl rfl hd_S_with ⟨Nat.le_of_ble_eq_true rfl, Nat.le_of_ble_eq_true rfl⟩) (vx_preS (P := fun _ => True) trivial hK) rfl rfl hl.1 rfl (lv_room (Nat.le_of_ble_eq_true rfl)) d_S_after_49 ⟨Nat.zero_le _, Nat.zero_le _⟩) (fun r49 e49 => ?_)
        subst e49
        exact W.iret (v := f_S_with (k - ((f_S_markAt k x) <<< ((3 * x) &&& 31))) y r g) hx hb hrt (fun t ht hW => ⟨_, rfl, by rw [f_S_after, if_neg h2, if_neg h25, if_pos h39], ht⟩) (fun q h => by cases h) d_S_after_52
      ·
        refine lv_iload_n hx hb d_S_after_42 rfl (lv_at hl 3 rfl) ?_
        refine lv_iconst (v := 1) hx hb d_S_after_43 rfl ?_
        refine lv_iadd hx hb d_S_after_44 ?_
        refine lv_goto (tgt := 49) hx hb d_S_after_45 rfl ?_
        refine vp_callSi (W.runS (As := [.int (k - ((f_S_markAt k x) <<< ((3 * x) &&& 31))), .int y, .int r, .int (g + 1)]) (rest := []) ⟨hx, hb, hml, hown, hts⟩ (c_S_with l X (k - ((f_S_markAt k x) <<< ((3 * x) &&& 31))) y r (g + 1)) (va_cwS 4 hts (gT (wd_1 235 rfl rfl) (wd_1 227 rfl rfl) (wd_1 8 rfl rfl) (wd_1 228 rfl rfl)) rfl rfl rfl hd_S_with ⟨Nat.le_of_ble_eq_true rfl, Nat.le_of_ble_eq_true rfl⟩) (vx_preS (P := fun _ => True) trivial hK) rfl rfl hl.1 rfl (lv_room (Nat.le_of_ble_eq_true rfl)) d_S_after_49 ⟨Nat.zero_le _, Nat.zero_le _⟩) (fun r49 e49 => ?_)
        subst e49
        exact W.iret (v := f_S_with (k - ((f_S_markAt k x) <<< ((3 * x) &&& 31))) y r (g + 1)) hx hb hrt (fun t ht hW => ⟨_, rfl, by rw [f_S_after, if_neg h2, if_neg h25, if_neg h39], ht⟩) (fun q h => by cases h) d_S_after_52
    ·
      refine lv_iload hx hb d_S_after_28 (lv_at hl 0 rfl) ?_
      exact W.iret (v := (k - ((f_S_markAt k x) <<< ((3 * x) &&& 31)))) hx hb hrt (fun t ht hW => ⟨_, rfl, by rw [f_S_after, if_neg h2, if_pos h25], ht⟩) (fun q h => by cases h) d_S_after_30
  ·
    refine lv_iload_n hx hb d_S_after_5 rfl (lv_at hl 0 rfl) ?_
    refine lv_goto (tgt := 20) hx hb d_S_after_6 rfl ?_
    refine lv_istore (lv' := [(5, .int k), (0, .int k), (1, .int r), (2, .int g), (3, .int x), (4, .int y)]) hx hb d_S_after_20 hl (by decide) rfl (fun ls hl => ?_)
    refine lv_iload hx hb d_S_after_22 (lv_at hl 5 rfl) ?_
    refine lv_iconst (v := 5) hx hb d_S_after_24 rfl ?_
    refine lv_icmp_ne (tgt := 31) hx hb d_S_after_25 rfl (fun h25 => ?_) (fun h25 => ?_)
    ·
      refine lv_iload hx hb d_S_after_31 (lv_at hl 0 rfl) ?_
      refine lv_iload hx hb d_S_after_33 (lv_at hl 5 rfl) ?_
      refine lv_iload_n hx hb d_S_after_35 rfl (lv_at hl 2 rfl) ?_
      refine lv_iload hx hb d_S_after_36 (lv_at hl 5 rfl) ?_
      refine lv_iconst (v := 4) hx hb d_S_after_38 rfl ?_
      refine lv_icmp_ge (tgt := 48) hx hb d_S_after_39 rfl (fun h39 => ?_) (fun h39 => ?_)
      ·
        refine lv_iload_n hx hb d_S_after_48 rfl (lv_at hl 3 rfl) ?_
        refine vp_callSi (W.runS (As := [.int k, .int y, .int r, .int g]) (rest := []) ⟨hx, hb, hml, hown, hts⟩ (c_S_with l X k y r g) (va_cwS 4 hts (gT (wd_1 235 rfl rfl) (wd_1 227 rfl rfl) (wd_1 8 rfl rfl) (wd_1 228 rfl rfl)) rfl rfl rfl hd_S_with ⟨Nat.le_of_ble_eq_true rfl, Nat.le_of_ble_eq_true rfl⟩) (vx_preS (P := fun _ => True) trivial hK) rfl rfl hl.1 rfl (lv_room (Nat.le_of_ble_eq_true rfl)) d_S_after_49 ⟨Nat.zero_le _, Nat.zero_le _⟩) (fun r49 e49 => ?_)
        subst e49
        exact W.iret (v := f_S_with k y r g) hx hb hrt (fun t ht hW => ⟨_, rfl, by rw [f_S_after, if_pos h2, if_neg h25, if_pos h39], ht⟩) (fun q h => by cases h) d_S_after_52
      ·
        refine lv_iload_n hx hb d_S_after_42 rfl (lv_at hl 3 rfl) ?_
        refine lv_iconst (v := 1) hx hb d_S_after_43 rfl ?_
        refine lv_iadd hx hb d_S_after_44 ?_
        refine lv_goto (tgt := 49) hx hb d_S_after_45 rfl ?_
        refine vp_callSi (W.runS (As := [.int k, .int y, .int r, .int (g + 1)]) (rest := []) ⟨hx, hb, hml, hown, hts⟩ (c_S_with l X k y r (g + 1)) (va_cwS 4 hts (gT (wd_1 235 rfl rfl) (wd_1 227 rfl rfl) (wd_1 8 rfl rfl) (wd_1 228 rfl rfl)) rfl rfl rfl hd_S_with ⟨Nat.le_of_ble_eq_true rfl, Nat.le_of_ble_eq_true rfl⟩) (vx_preS (P := fun _ => True) trivial hK) rfl rfl hl.1 rfl (lv_room (Nat.le_of_ble_eq_true rfl)) d_S_after_49 ⟨Nat.zero_le _, Nat.zero_le _⟩) (fun r49 e49 => ?_)
        subst e49
        exact W.iret (v := f_S_with k y r (g + 1)) hx hb hrt (fun t ht hW => ⟨_, rfl, by rw [f_S_after, if_pos h2, if_neg h25, if_neg h39], ht⟩) (fun q h => by cases h) d_S_after_52
    ·
      refine lv_iload hx hb d_S_after_28 (lv_at hl 0 rfl) ?_
      exact W.iret (v := k) hx hb hrt (fun t ht hW => ⟨_, rfl, by rw [f_S_after, if_pos h2, if_pos h25], ht⟩) (fun q h => by cases h) d_S_after_30
abbrev rm_S_isFree : Room := { frames := 1, cells := 0, slots := 0, locals := 21 }
def f_S_isFree (k : Int32) (x : Int32) (y : Int32) : Bool :=
  if y = 5 then
    true
  else
    if y = x then
      true
    else
      if (f_S_markAt k y) = 0 then
        true
      else
        false
set_option maxRecDepth 20000 in
set_option maxHeartbeats 4000000 in
theorem c_S_isFree (l : Launch) (X : Xt) (k : Int32) (x : Int32) (y : Int32) : Met l y_S_isFree (Cond.code y_S_isFree b_S_isFree 3 (some .boolean) :: WA) rm_S_isFree (va_Pc [.int k, .int x, .int y] (fun U => True ∧ KK X U)) (vp_Si (fun ans => ans = b2i (f_S_isFree k x y))) 0 0 (fun _ => False) := by
  refine vx_met (cc := b_S_isFree) (maxL := 3) (ret := (some .boolean)) (by decide) rfl (Nat.le_of_ble_eq_true rfl) ?_
  intro p e s m below meth c ls hx hb hrt hts hown hlocks hname hml hB hl
  obtain ⟨hP, hK⟩ := hB
  have hown : s.vm.findClass R_Situation = some m.cls := hown
  have hl : lv_has ls 3 [(0, .int k), (1, .int x), (2, .int y)] := hl
  refine lv_iload_n hx hb d_S_isFree_0 rfl (lv_at hl 2 rfl) ?_
  refine lv_iconst (v := 5) hx hb d_S_isFree_1 rfl ?_
  refine lv_icmp_eq (tgt := 18) hx hb d_S_isFree_2 rfl (fun h2 => ?_) (fun h2 => ?_)
  ·
    refine lv_iconst (v := 1) hx hb d_S_isFree_18 rfl ?_
    refine lv_goto (tgt := 23) hx hb d_S_isFree_19 rfl ?_
    exact W.zret (v := b2i true) hx hb hrt (b2i_nar _) (fun t ht hW => ⟨_, rfl, by rw [f_S_isFree, if_pos h2], ht⟩) (fun q h => by cases h) d_S_isFree_23
  ·
    refine lv_iload_n hx hb d_S_isFree_5 rfl (lv_at hl 2 rfl) ?_
    refine lv_iload_n hx hb d_S_isFree_6 rfl (lv_at hl 1 rfl) ?_
    refine lv_icmp_eq (tgt := 18) hx hb d_S_isFree_7 rfl (fun h7 => ?_) (fun h7 => ?_)
    ·
      refine lv_iconst (v := 1) hx hb d_S_isFree_18 rfl ?_
      refine lv_goto (tgt := 23) hx hb d_S_isFree_19 rfl ?_
      exact W.zret (v := b2i true) hx hb hrt (b2i_nar _) (fun t ht hW => ⟨_, rfl, by rw [f_S_isFree, if_neg h2, if_pos h7], ht⟩) (fun q h => by cases h) d_S_isFree_23
    ·
      refine lv_iload_n hx hb d_S_isFree_10 rfl (lv_at hl 0 rfl) ?_
      refine lv_iload_n hx hb d_S_isFree_11 rfl (lv_at hl 2 rfl) ?_
      refine vp_callSi (W.runS (As := [.int k, .int y]) (rest := []) ⟨hx, hb, hml, hown, hts⟩ (c_S_markAt l X k y) (va_cwS 2 hts (gT (wd_1 232 rfl rfl) (wd_1 233 rfl rfl) (wd_1 8 rfl rfl) (wd_1 234 rfl rfl)) rfl rfl rfl hd_S_markAt ⟨Nat.le_of_ble_eq_true rfl, Nat.le_of_ble_eq_true rfl⟩) (vx_preS (P := fun _ => True) trivial hK) rfl rfl hl.1 rfl (lv_room (Nat.le_of_ble_eq_true rfl)) d_S_isFree_12 ⟨Nat.zero_le _, Nat.zero_le _⟩) (fun r12 e12 => ?_)
      subst e12
      refine lv_if_ne (tgt := 22) hx hb d_S_isFree_15 rfl (fun h15 => ?_) (fun h15 => ?_)
      ·
        refine lv_iconst (v := 0) hx hb d_S_isFree_22 rfl ?_
        exact W.zret (v := b2i false) hx hb hrt (b2i_nar _) (fun t ht hW => ⟨_, rfl, by rw [f_S_isFree, if_neg h2, if_neg h7, if_neg h15], ht⟩) (fun q h => by cases h) d_S_isFree_23
      ·
        refine lv_iconst (v := 1) hx hb d_S_isFree_18 rfl ?_
        refine lv_goto (tgt := 23) hx hb d_S_isFree_19 rfl ?_
        exact W.zret (v := b2i true) hx hb hrt (b2i_nar _) (fun t ht hW => ⟨_, rfl, by rw [f_S_isFree, if_neg h2, if_neg h7, if_pos h15], ht⟩) (fun q h => by cases h) d_S_isFree_23
