abbrev rm_M_isRoute : Room := { frames := 0, cells := 0, slots := 0, locals := 0 }
def f_M_isRoute (x : Int32) : Bool :=
  if x = 0 then
    true
  else
    if x = 1 then
      true
    else
      false
set_option maxRecDepth 20000 in
set_option maxHeartbeats 4000000 in
theorem c_M_isRoute (l : Launch) (X : Xt) (x : Int32) : Met l y_M_isRoute (Cond.code y_M_isRoute b_M_isRoute 1 (some .boolean) :: WA) rm_M_isRoute (va_Pc [.int x] (fun U => True ∧ KK X U)) (vp_Si (fun ans => ans = b2i (f_M_isRoute x))) 0 0 (fun _ => False) := by
  refine vx_met (cc := b_M_isRoute) (maxL := 1) (ret := (some .boolean)) (by decide) rfl (Nat.le_of_ble_eq_true rfl) ?_
  intro p e s m below meth c ls hx hb hrt hts hown hlocks hname hml hB hl
  obtain ⟨hP, hK⟩ := hB
  have hown : s.vm.findClass R_Model = some m.cls := hown
  have hl : lv_has ls 1 [(0, .int x)] := hl
  refine lv_iload_n hx hb d_M_isRoute_0 rfl (lv_at hl 0 rfl) ?_
  refine lv_if_eq (tgt := 9) hx hb d_M_isRoute_1 rfl (fun h1 => ?_) (fun h1 => ?_)
  ·
    refine lv_iconst (v := 1) hx hb d_M_isRoute_9 rfl ?_
    refine lv_goto (tgt := 14) hx hb d_M_isRoute_10 rfl ?_
    exact W.zret (v := b2i true) hx hb hrt (b2i_nar _) (fun t ht hW => ⟨_, rfl, by rw [f_M_isRoute, if_pos h1], ht⟩) (fun q h => by cases h) d_M_isRoute_14
  ·
    refine lv_iload_n hx hb d_M_isRoute_4 rfl (lv_at hl 0 rfl) ?_
    refine lv_iconst (v := 1) hx hb d_M_isRoute_5 rfl ?_
    refine lv_icmp_ne (tgt := 13) hx hb d_M_isRoute_6 rfl (fun h6 => ?_) (fun h6 => ?_)
    ·
      refine lv_iconst (v := 0) hx hb d_M_isRoute_13 rfl ?_
      exact W.zret (v := b2i false) hx hb hrt (b2i_nar _) (fun t ht hW => ⟨_, rfl, by rw [f_M_isRoute, if_neg h1, if_neg h6], ht⟩) (fun q h => by cases h) d_M_isRoute_14
    ·
      refine lv_iconst (v := 1) hx hb d_M_isRoute_9 rfl ?_
      refine lv_goto (tgt := 14) hx hb d_M_isRoute_10 rfl ?_
      exact W.zret (v := b2i true) hx hb hrt (b2i_nar _) (fun t ht hW => ⟨_, rfl, by rw [f_M_isRoute, if_neg h1, if_pos h6], ht⟩) (fun q h => by cases h) d_M_isRoute_14
abbrev rm_M_isFront : Room := { frames := 0, cells := 0, slots := 0, locals := 0 }
def f_M_isFront (x : Int32) : Bool :=
  if x < 2 then
    true
  else
    if x ≤ 3 then
      false
    else
      true
set_option maxRecDepth 20000 in
set_option maxHeartbeats 4000000 in
theorem c_M_isFront (l : Launch) (X : Xt) (x : Int32) : Met l y_M_isFront (Cond.code y_M_isFront b_M_isFront 1 (some .boolean) :: WA) rm_M_isFront (va_Pc [.int x] (fun U => True ∧ KK X U)) (vp_Si (fun ans => ans = b2i (f_M_isFront x))) 0 0 (fun _ => False) := by
  refine vx_met (cc := b_M_isFront) (maxL := 1) (ret := (some .boolean)) (by decide) rfl (Nat.le_of_ble_eq_true rfl) ?_
  intro p e s m below meth c ls hx hb hrt hts hown hlocks hname hml hB hl
  obtain ⟨hP, hK⟩ := hB
  have hown : s.vm.findClass R_Model = some m.cls := hown
  have hl : lv_has ls 1 [(0, .int x)] := hl
  refine lv_iload_n hx hb d_M_isFront_0 rfl (lv_at hl 0 rfl) ?_
  refine lv_iconst (v := 2) hx hb d_M_isFront_1 rfl ?_
  refine lv_icmp_lt (tgt := 10) hx hb d_M_isFront_2 rfl (fun h2 => ?_) (fun h2 => ?_)
  ·
    refine lv_iconst (v := 1) hx hb d_M_isFront_10 rfl ?_
    refine lv_goto (tgt := 15) hx hb d_M_isFront_11 rfl ?_
    exact W.zret (v := b2i true) hx hb hrt (b2i_nar _) (fun t ht hW => ⟨_, rfl, by rw [f_M_isFront, if_pos h2], ht⟩) (fun q h => by cases h) d_M_isFront_15
  ·
    refine lv_iload_n hx hb d_M_isFront_5 rfl (lv_at hl 0 rfl) ?_
    refine lv_iconst (v := 3) hx hb d_M_isFront_6 rfl ?_
    refine lv_icmp_le (tgt := 14) hx hb d_M_isFront_7 rfl (fun h7 => ?_) (fun h7 => ?_)
    ·
      refine lv_iconst (v := 0) hx hb d_M_isFront_14 rfl ?_
      exact W.zret (v := b2i false) hx hb hrt (b2i_nar _) (fun t ht hW => ⟨_, rfl, by rw [f_M_isFront, if_neg h2, if_pos h7], ht⟩) (fun q h => by cases h) d_M_isFront_15
    ·
      refine lv_iconst (v := 1) hx hb d_M_isFront_10 rfl ?_
      refine lv_goto (tgt := 15) hx hb d_M_isFront_11 rfl ?_
      exact W.zret (v := b2i true) hx hb hrt (b2i_nar _) (fun t ht hW => ⟨_, rfl, by rw [f_M_isFront, if_neg h2, if_neg h7], ht⟩) (fun q h => by cases h) d_M_isFront_15
abbrev rm_M_isBack : Room := { frames := 0, cells := 0, slots := 0, locals := 0 }
def f_M_isBack (x : Int32) : Bool :=
  if x ≤ 1 then
    false
  else
    if 5 ≤ x then
      false
    else
      true
set_option maxRecDepth 20000 in
set_option maxHeartbeats 4000000 in
theorem c_M_isBack (l : Launch) (X : Xt) (x : Int32) : Met l y_M_isBack (Cond.code y_M_isBack b_M_isBack 1 (some .boolean) :: WA) rm_M_isBack (va_Pc [.int x] (fun U => True ∧ KK X U)) (vp_Si (fun ans => ans = b2i (f_M_isBack x))) 0 0 (fun _ => False) := by
  refine vx_met (cc := b_M_isBack) (maxL := 1) (ret := (some .boolean)) (by decide) rfl (Nat.le_of_ble_eq_true rfl) ?_
  intro p e s m below meth c ls hx hb hrt hts hown hlocks hname hml hB hl
  obtain ⟨hP, hK⟩ := hB
  have hown : s.vm.findClass R_Model = some m.cls := hown
  have hl : lv_has ls 1 [(0, .int x)] := hl
  refine lv_iload_n hx hb d_M_isBack_0 rfl (lv_at hl 0 rfl) ?_
  refine lv_iconst (v := 1) hx hb d_M_isBack_1 rfl ?_
  refine lv_icmp_le (tgt := 14) hx hb d_M_isBack_2 rfl (fun h2 => ?_) (fun h2 => ?_)
  ·
    refine lv_iconst (v := 0) hx hb d_M_isBack_14 rfl ?_
    exact W.zret (v := b2i false) hx hb hrt (b2i_nar _) (fun t ht hW => ⟨_, rfl, by rw [f_M_isBack, if_pos h2], ht⟩) (fun q h => by cases h) d_M_isBack_15
  ·
    refine lv_iload_n hx hb d_M_isBack_5 rfl (lv_at hl 0 rfl) ?_
    refine lv_iconst (v := 5) hx hb d_M_isBack_6 rfl ?_
    refine lv_icmp_ge (tgt := 14) hx hb d_M_isBack_7 rfl (fun h7 => ?_) (fun h7 => ?_)
    ·
      refine lv_iconst (v := 0) hx hb d_M_isBack_14 rfl ?_
      exact W.zret (v := b2i false) hx hb hrt (b2i_nar _) (fun t ht hW => ⟨_, rfl, by rw [f_M_isBack, if_neg h2, if_pos h7], ht⟩) (fun q h => by cases h) d_M_isBack_15
    ·
      refine lv_iconst (v := 1) hx hb d_M_isBack_10 rfl ?_
      refine lv_goto (tgt := 15) hx hb d_M_isBack_11 rfl ?_
      exact W.zret (v := b2i true) hx hb hrt (b2i_nar _) (fun t ht hW => ⟨_, rfl, by rw [f_M_isBack, if_neg h2, if_neg h7], ht⟩) (fun q h => by cases h) d_M_isBack_15
abbrev rm_M_areNear : Room := { frames := 1, cells := 0, slots := 0, locals := 20 }
def f_M_areNear (x : Int32) (y : Int32) : Bool :=
  if (f_M_isFront x) then
    if (f_M_isFront y) then
      true
    else
      if (f_M_isBack x) then
        if (f_M_isBack y) then
          true
        else
          false
      else
        false
  else
    if (f_M_isBack x) then
      if (f_M_isBack y) then
        true
      else
        false
    else
      false
set_option maxRecDepth 20000 in
set_option maxHeartbeats 4000000 in
theorem c_M_areNear (l : Launch) (X : Xt) (x : Int32) (y : Int32) : Met l y_M_areNear (Cond.code y_M_areNear b_M_areNear 2 (some .boolean) :: WA) rm_M_areNear (va_Pc [.int x, .int y] (fun U => True ∧ KK X U)) (vp_Si (fun ans => ans = b2i (f_M_areNear x y))) 0 0 (fun _ => False) := by
  refine vx_met (cc := b_M_areNear) (maxL := 2) (ret := (some .boolean)) (by decide) rfl (Nat.le_of_ble_eq_true rfl) ?_
  intro p e s m below meth c ls hx hb hrt hts hown hlocks hname hml hB hl
  obtain ⟨hP, hK⟩ := hB
  have hown : s.vm.findClass R_Model = some m.cls := hown
  have hl : lv_has ls 2 [(0, .int x), (1, .int y)] := hl
  refine lv_iload_n hx hb d_M_areNear_0 rfl (lv_at hl 0 rfl) ?_
  refine vp_callSi (W.runS (As := [.int x]) (rest := []) ⟨hx, hb, hml, hown, hts⟩ (c_M_isFront l X x) (va_cwS 1 hts (gT (wd_3 44 rfl rfl) (wd_3 45 rfl rfl) (wd_1 6 rfl rfl) (wd_3 46 rfl rfl)) rfl rfl rfl hd_M_isFront ⟨Nat.le_of_ble_eq_true rfl, Nat.le_of_ble_eq_true rfl⟩) (vx_preS (P := fun _ => True) trivial hK) rfl rfl hl.1 rfl (lv_room (Nat.le_of_ble_eq_true rfl)) d_M_areNear_1 ⟨Nat.zero_le _, Nat.zero_le _⟩) (fun r1 e1 => ?_)
  subst e1
  refine lv_if_eq (tgt := 14) hx hb d_M_areNear_4 rfl (fun h4 => ?_) (fun h4 => ?_)
  ·
    have h4 := b2i_f h4
    refine lv_iload_n hx hb d_M_areNear_14 rfl (lv_at hl 0 rfl) ?_
    refine vp_callSi (W.runS (As := [.int x]) (rest := []) ⟨hx, hb, hml, hown, hts⟩ (c_M_isBack l X x) (va_cwS 1 hts (gT (wd_3 47 rfl rfl) (wd_3 48 rfl rfl) (wd_1 6 rfl rfl) (wd_3 49 rfl rfl)) rfl rfl rfl hd_M_isBack ⟨Nat.le_of_ble_eq_true rfl, Nat.le_of_ble_eq_true rfl⟩) (vx_preS (P := fun _ => True) trivial hK) rfl rfl hl.1 rfl (lv_room (Nat.le_of_ble_eq_true rfl)) d_M_areNear_15 ⟨Nat.zero_le _, Nat.zero_le _⟩) (fun r15 e15 => ?_)
    subst e15
    refine lv_if_eq (tgt := 32) hx hb d_M_areNear_18 rfl (fun h18 => ?_) (fun h18 => ?_)
    ·
      have h18 := b2i_f h18
      refine lv_iconst (v := 0) hx hb d_M_areNear_32 rfl ?_
      exact W.zret (v := b2i false) hx hb hrt (b2i_nar _) (fun t ht hW => ⟨_, rfl, by rw [f_M_areNear, if_neg (nt_of h4), if_neg (nt_of h18)], ht⟩) (fun q h => by cases h) d_M_areNear_33
    ·
      have h18 := b2i_t h18
      refine lv_iload_n hx hb d_M_areNear_21 rfl (lv_at hl 1 rfl) ?_
      refine vp_callSi (W.runS (As := [.int y]) (rest := []) ⟨hx, hb, hml, hown, hts⟩ (c_M_isBack l X y) (va_cwS 1 hts (gT (wd_3 47 rfl rfl) (wd_3 48 rfl rfl) (wd_1 6 rfl rfl) (wd_3 49 rfl rfl)) rfl rfl rfl hd_M_isBack ⟨Nat.le_of_ble_eq_true rfl, Nat.le_of_ble_eq_true rfl⟩) (vx_preS (P := fun _ => True) trivial hK) rfl rfl hl.1 rfl (lv_room (Nat.le_of_ble_eq_true rfl)) d_M_areNear_22 ⟨Nat.zero_le _, Nat.zero_le _⟩) (fun r22 e22 => ?_)
      subst e22
      refine lv_if_eq (tgt := 32) hx hb d_M_areNear_25 rfl (fun h25 => ?_) (fun h25 => ?_)
      ·
        have h25 := b2i_f h25
        refine lv_iconst (v := 0) hx hb d_M_areNear_32 rfl ?_
        exact W.zret (v := b2i false) hx hb hrt (b2i_nar _) (fun t ht hW => ⟨_, rfl, by rw [f_M_areNear, if_neg (nt_of h4), if_pos h18, if_neg (nt_of h25)], ht⟩) (fun q h => by cases h) d_M_areNear_33
      ·
        have h25 := b2i_t h25
        refine lv_iconst (v := 1) hx hb d_M_areNear_28 rfl ?_
        refine lv_goto (tgt := 33) hx hb d_M_areNear_29 rfl ?_
        exact W.zret (v := b2i true) hx hb hrt (b2i_nar _) (fun t ht hW => ⟨_, rfl, by rw [f_M_areNear, if_neg (nt_of h4), if_pos h18, if_pos h25], ht⟩) (fun q h => by cases h) d_M_areNear_33
  ·
    have h4 := b2i_t h4
    refine lv_iload_n hx hb d_M_areNear_7 rfl (lv_at hl 1 rfl) ?_
    refine vp_callSi (W.runS (As := [.int y]) (rest := []) ⟨hx, hb, hml, hown, hts⟩ (c_M_isFront l X y) (va_cwS 1 hts (gT (wd_3 44 rfl rfl) (wd_3 45 rfl rfl) (wd_1 6 rfl rfl) (wd_3 46 rfl rfl)) rfl rfl rfl hd_M_isFront ⟨Nat.le_of_ble_eq_true rfl, Nat.le_of_ble_eq_true rfl⟩) (vx_preS (P := fun _ => True) trivial hK) rfl rfl hl.1 rfl (lv_room (Nat.le_of_ble_eq_true rfl)) d_M_areNear_8 ⟨Nat.zero_le _, Nat.zero_le _⟩) (fun r8 e8 => ?_)
    subst e8
    refine lv_if_ne (tgt := 28) hx hb d_M_areNear_11 rfl (fun h11 => ?_) (fun h11 => ?_)
    ·
      have h11 := b2i_t h11
      refine lv_iconst (v := 1) hx hb d_M_areNear_28 rfl ?_
      refine lv_goto (tgt := 33) hx hb d_M_areNear_29 rfl ?_
      exact W.zret (v := b2i true) hx hb hrt (b2i_nar _) (fun t ht hW => ⟨_, rfl, by rw [f_M_areNear, if_pos h4, if_pos h11], ht⟩) (fun q h => by cases h) d_M_areNear_33
    ·
      have h11 := b2i_f h11
      refine lv_iload_n hx hb d_M_areNear_14 rfl (lv_at hl 0 rfl) ?_
      refine vp_callSi (W.runS (As := [.int x]) (rest := []) ⟨hx, hb, hml, hown, hts⟩ (c_M_isBack l X x) (va_cwS 1 hts (gT (wd_3 47 rfl rfl) (wd_3 48 rfl rfl) (wd_1 6 rfl rfl) (wd_3 49 rfl rfl)) rfl rfl rfl hd_M_isBack ⟨Nat.le_of_ble_eq_true rfl, Nat.le_of_ble_eq_true rfl⟩) (vx_preS (P := fun _ => True) trivial hK) rfl rfl hl.1 rfl (lv_room (Nat.le_of_ble_eq_true rfl)) d_M_areNear_15 ⟨Nat.zero_le _, Nat.zero_le _⟩) (fun r15 e15 => ?_)
      subst e15
      refine lv_if_eq (tgt := 32) hx hb d_M_areNear_18 rfl (fun h18 => ?_) (fun h18 => ?_)
      ·
        have h18 := b2i_f h18
        refine lv_iconst (v := 0) hx hb d_M_areNear_32 rfl ?_
        exact W.zret (v := b2i false) hx hb hrt (b2i_nar _) (fun t ht hW => ⟨_, rfl, by rw [f_M_areNear, if_pos h4, if_neg (nt_of h11), if_neg (nt_of h18)], ht⟩) (fun q h => by cases h) d_M_areNear_33
      ·
        have h18 := b2i_t h18
        refine lv_iload_n hx hb d_M_areNear_21 rfl (lv_at hl 1 rfl) ?_
        refine vp_callSi (W.runS (As := [.int y]) (rest := []) ⟨hx, hb, hml, hown, hts⟩ (c_M_isBack l X y) (va_cwS 1 hts (gT (wd_3 47 rfl rfl) (wd_3 48 rfl rfl) (wd_1 6 rfl rfl) (wd_3 49 rfl rfl)) rfl rfl rfl hd_M_isBack ⟨Nat.le_of_ble_eq_true rfl, Nat.le_of_ble_eq_true rfl⟩) (vx_preS (P := fun _ => True) trivial hK) rfl rfl hl.1 rfl (lv_room (Nat.le_of_ble_eq_true rfl)) d_M_areNear_22 ⟨Nat.zero_le _, Nat.zero_le _⟩) (fun r22 e22 => ?_)
        subst e22
        refine lv_if_eq (tgt := 32) hx hb d_M_areNear_25 rfl (fun h25 => ?_) (fun h25 => ?_)
        ·
          have h25 := b2i_f h25
          refine lv_iconst (v := 0) hx hb d_M_areNear_32 rfl ?_
          exact W.zret (v := b2i false) hx hb hrt (b2i_nar _) (fun t ht hW => ⟨_, rfl, by rw [f_M_areNear, if_pos h4, if_neg (nt_of h11), if_pos h18, if_neg (nt_of h25)], ht⟩) (fun q h => by cases h) d_M_areNear_33
        ·
          have h25 := b2i_t h25
          refine lv_iconst (v := 1) hx hb d_M_areNear_28 rfl ?_
          refine lv_goto (tgt := 33) hx hb d_M_areNear_29 rfl ?_
          exact W.zret (v := b2i true) hx hb hrt (b2i_nar _) (fun t ht hW => ⟨_, rfl, by rw [f_M_areNear, if_pos h4, if_neg (nt_of h11), if_pos h18, if_pos h25], ht⟩) (fun q h => by cases h) d_M_areNear_33
abbrev rm_M_byFront : Room := { frames := 1, cells := 0, slots := 0, locals := 20 }
def f_M_byFront (x : Int32) (y : Int32) : Bool :=
  if (f_M_isFront x) then
    if (f_M_isFront y) then
      true
    else
      false
  else
    false
set_option maxRecDepth 20000 in
set_option maxHeartbeats 4000000 in
theorem c_M_byFront (l : Launch) (X : Xt) (x : Int32) (y : Int32) : Met l y_M_byFront (Cond.code y_M_byFront b_M_byFront 2 (some .boolean) :: WA) rm_M_byFront (va_Pc [.int x, .int y] (fun U => True ∧ KK X U)) (vp_Si (fun ans => ans = b2i (f_M_byFront x y))) 0 0 (fun _ => False) := by
  refine vx_met (cc := b_M_byFront) (maxL := 2) (ret := (some .boolean)) (by decide) rfl (Nat.le_of_ble_eq_true rfl) ?_
  intro p e s m below meth c ls hx hb hrt hts hown hlocks hname hml hB hl
  obtain ⟨hP, hK⟩ := hB
  have hown : s.vm.findClass R_Model = some m.cls := hown
  have hl : lv_has ls 2 [(0, .int x), (1, .int y)] := hl
  refine lv_iload_n hx hb d_M_byFront_0 rfl (lv_at hl 0 rfl) ?_
  refine vp_callSi (W.runS (As := [.int x]) (rest := []) ⟨hx, hb, hml, hown, hts⟩ (c_M_isFront l X x) (va_cwS 1 hts (gT (wd_3 44 rfl rfl) (wd_3 45 rfl rfl) (wd_1 6 rfl rfl) (wd_3 46 rfl rfl)) rfl rfl rfl hd_M_isFront ⟨Nat.le_of_ble_eq_true rfl, Nat.le_of_ble_eq_true rfl⟩) (vx_preS (P := fun _ => True) trivial hK) rfl rfl hl.1 rfl (lv_room (Nat.le_of_ble_eq_true rfl)) d_M_byFront_1 ⟨Nat.zero_le _, Nat.zero_le _⟩) (fun r1 e1 => ?_)
  subst e1
  refine lv_if_eq (tgt := 18) hx hb d_M_byFront_4 rfl (fun h4 => ?_) (fun h4 => ?_)
  ·
    have h4 := b2i_f h4
    refine lv_iconst (v := 0) hx hb d_M_byFront_18 rfl ?_
    exact W.zret (v := b2i false) hx hb hrt (b2i_nar _) (fun t ht hW => ⟨_, rfl, by rw [f_M_byFront, if_neg (nt_of h4)], ht⟩) (fun q h => by cases h) d_M_byFront_19
  ·
    have h4 := b2i_t h4
    refine lv_iload_n hx hb d_M_byFront_7 rfl (lv_at hl 1 rfl) ?_
    refine vp_callSi (W.runS (As := [.int y]) (rest := []) ⟨hx, hb, hml, hown, hts⟩ (c_M_isFront l X y) (va_cwS 1 hts (gT (wd_3 44 rfl rfl) (wd_3 45 rfl rfl) (wd_1 6 rfl rfl) (wd_3 46 rfl rfl)) rfl rfl rfl hd_M_isFront ⟨Nat.le_of_ble_eq_true rfl, Nat.le_of_ble_eq_true rfl⟩) (vx_preS (P := fun _ => True) trivial hK) rfl rfl hl.1 rfl (lv_room (Nat.le_of_ble_eq_true rfl)) d_M_byFront_8 ⟨Nat.zero_le _, Nat.zero_le _⟩) (fun r8 e8 => ?_)
    subst e8
    refine lv_if_eq (tgt := 18) hx hb d_M_byFront_11 rfl (fun h11 => ?_) (fun h11 => ?_)
    ·
      have h11 := b2i_f h11
      refine lv_iconst (v := 0) hx hb d_M_byFront_18 rfl ?_
      exact W.zret (v := b2i false) hx hb hrt (b2i_nar _) (fun t ht hW => ⟨_, rfl, by rw [f_M_byFront, if_pos h4, if_neg (nt_of h11)], ht⟩) (fun q h => by cases h) d_M_byFront_19
    ·
      have h11 := b2i_t h11
      refine lv_iconst (v := 1) hx hb d_M_byFront_14 rfl ?_
      refine lv_goto (tgt := 19) hx hb d_M_byFront_15 rfl ?_
      exact W.zret (v := b2i true) hx hb hrt (b2i_nar _) (fun t ht hW => ⟨_, rfl, by rw [f_M_byFront, if_pos h4, if_pos h11], ht⟩) (fun q h => by cases h) d_M_byFront_19
abbrev rm_M_isWafer : Room := { frames := 0, cells := 0, slots := 0, locals := 0 }
def f_M_isWafer (A : St) (x : Int32) : Bool :=
  if x < 0 then
    false
  else
    if (nI (sA_n A)) ≤ x then
      false
    else
      true
set_option maxRecDepth 20000 in
set_option maxHeartbeats 4000000 in
theorem c_M_isWafer (l : Launch) (X : Xt) (G : Gr) (A : St) (x : Int32) : Met l y_M_isWafer (Cond.code y_M_isWafer b_M_isWafer 2 (some .boolean) :: WA) rm_M_isWafer (va_Pc [.ref (rA_ad G 0), .int x] (fun U => QR X G A U.heap ∧ KK X U)) (vp_Si (fun ans => ans = b2i (f_M_isWafer A x))) 0 0 (fun _ => False) := by
  refine vx_met (cc := b_M_isWafer) (maxL := 2) (ret := (some .boolean)) (by decide) rfl (Nat.le_of_ble_eq_true rfl) ?_
  intro p e s m below meth c ls hx hb hrt hts hown hlocks hname hml hB hl
  obtain ⟨hP, hK⟩ := hB
  have hown : s.vm.findClass R_Model = some m.cls := hown
  have hl : lv_has ls 2 [(0, .ref (rA_ad G 0)), (1, .int x)] := hl
  have hP : va_P X.1 classes (rw_ X G A) s.heap := hP
  refine lv_iload_n hx hb d_M_isWafer_0 rfl (lv_at hl 1 rfl) ?_
  refine lv_if_lt (tgt := 16) hx hb d_M_isWafer_1 rfl (fun h1 => ?_) (fun h1 => ?_)
  ·
    refine lv_iconst (v := 0) hx hb d_M_isWafer_16 rfl ?_
    exact W.zret (v := b2i false) hx hb hrt (b2i_nar _) (fun t ht hW => ⟨_, rfl, by rw [f_M_isWafer, if_pos h1], ht⟩) (fun q h => by cases h) d_M_isWafer_17
  ·
    refine lv_iload_n hx hb d_M_isWafer_4 rfl (lv_at hl 1 rfl) ?_
    refine lv_aload_n hx hb d_M_isWafer_5 rfl (lv_at hl 0 rfl) ?_
    refine va_get (D := X.1) (ci := 6) (C := R_Model) (T := F_Model) (N := 24) hx hb hts hin_Model hown hK.1 hP 0 rw_0 rfl 4 (by decide) (hts _ (wd_2 158 rfl rfl)) (fun _ h9 => h9) rfl d_M_isWafer_6 ?_
    refine lv_icmp_ge (tgt := 16) hx hb d_M_isWafer_9 rfl (fun h9 => ?_) (fun h9 => ?_)
    ·
      refine lv_iconst (v := 0) hx hb d_M_isWafer_16 rfl ?_
      exact W.zret (v := b2i false) hx hb hrt (b2i_nar _) (fun t ht hW => ⟨_, rfl, by rw [f_M_isWafer, if_neg h1, if_pos h9], ht⟩) (fun q h => by cases h) d_M_isWafer_17
    ·
      refine lv_iconst (v := 1) hx hb d_M_isWafer_12 rfl ?_
      refine lv_goto (tgt := 17) hx hb d_M_isWafer_13 rfl ?_
      exact W.zret (v := b2i true) hx hb hrt (b2i_nar _) (fun t ht hW => ⟨_, rfl, by rw [f_M_isWafer, if_neg h1, if_neg h9], ht⟩) (fun q h => by cases h) d_M_isWafer_17
abbrev rm_M_isFinished : Room := { frames := 0, cells := 0, slots := 0, locals := 0 }
def f_M_isFinished (A : St) (i : Nat) : Bool :=
  if (nI (sA_pl A i)) = 5 then
    if (nI (sA_sg A i)) = (nI (sA_len A (sA_rt A i))) then
      true
    else
      false
  else
    false
set_option maxRecDepth 20000 in
set_option maxHeartbeats 4000000 in
theorem c_M_isFinished (l : Launch) (X : Xt) (G : Gr) (A : St) (i : Nat) (hI : Inv A) (hi : i < sA_n A) : Met l y_M_isFinished (Cond.code y_M_isFinished b_M_isFinished 2 (some .boolean) :: WA) rm_M_isFinished (va_Pc [.ref (rA_ad G 0), .int (nI i)] (fun U => QR X G A U.heap ∧ KK X U)) (vp_Si (fun ans => ans = b2i (f_M_isFinished A i))) 0 0 (fun _ => False) := by
  refine vx_met (cc := b_M_isFinished) (maxL := 2) (ret := (some .boolean)) (by decide) rfl (Nat.le_of_ble_eq_true rfl) ?_
  intro p e s m below meth c ls hx hb hrt hts hown hlocks hname hml hB hl
  obtain ⟨hP, hK⟩ := hB
  have hown : s.vm.findClass R_Model = some m.cls := hown
  have hl : lv_has ls 2 [(0, .ref (rA_ad G 0)), (1, .int (nI i))] := hl
  have hP : va_P X.1 classes (rw_ X G A) s.heap := hP
  have hn := hI.1
  have hR := hI.2.1
  obtain ⟨w1, w2, w3, w4, w5, -⟩ := hI.2.2.1 i hi
  have wl := hR.1 (sA_rt A i)
  refine lv_aload_n hx hb d_M_isFinished_0 rfl (lv_at hl 0 rfl) ?_
  refine va_get (D := X.1) (ci := 6) (C := R_Model) (T := F_Model) (N := 24) hx hb hts hin_Model hown hK.1 hP 0 rw_0 rfl 7 (by decide) (hts _ (wd_2 161 rfl rfl)) (fun _ h9 => h9) rfl d_M_isFinished_1 ?_
  refine lv_iload_n hx hb d_M_isFinished_4 rfl (lv_at hl 1 rfl) ?_
  refine va_iald hx hb hK.1 hP 7 0 rw_7 rfl (vp_in_nI (n := i) (by omega) (by omega)) d_M_isFinished_5 ?_
  rw [nI_clamp (n := i) (by omega)]
  refine lv_iconst (v := 5) hx hb d_M_isFinished_6 rfl ?_
  refine lv_icmp_ne (tgt := 34) hx hb d_M_isFinished_7 rfl (fun h7 => ?_) (fun h7 => ?_)
  ·
    refine lv_iconst (v := 0) hx hb d_M_isFinished_34 rfl ?_
    exact W.zret (v := b2i false) hx hb hrt (b2i_nar _) (fun t ht hW => ⟨_, rfl, by rw [f_M_isFinished, if_neg h7], ht⟩) (fun q h => by cases h) d_M_isFinished_35
  ·
    refine lv_aload_n hx hb d_M_isFinished_10 rfl (lv_at hl 0 rfl) ?_
    refine va_get (D := X.1) (ci := 6) (C := R_Model) (T := F_Model) (N := 24) hx hb hts hin_Model hown hK.1 hP 0 rw_0 rfl 6 (by decide) (hts _ (wd_2 160 rfl rfl)) (fun _ h9 => h9) rfl d_M_isFinished_11 ?_
    refine lv_iload_n hx hb d_M_isFinished_14 rfl (lv_at hl 1 rfl) ?_
    refine va_iald hx hb hK.1 hP 6 0 rw_6 rfl (vp_in_nI (n := i) (by omega) (by omega)) d_M_isFinished_15 ?_
    rw [nI_clamp (n := i) (by omega)]
    refine lv_aload_n hx hb d_M_isFinished_16 rfl (lv_at hl 0 rfl) ?_
    refine va_get (D := X.1) (ci := 6) (C := R_Model) (T := F_Model) (N := 24) hx hb hts hin_Model hown hK.1 hP 0 rw_0 rfl 0 (by decide) (hts _ (wd_2 154 rfl rfl)) (fun _ h9 => h9) rfl d_M_isFinished_17 ?_
    refine lv_aload_n hx hb d_M_isFinished_20 rfl (lv_at hl 0 rfl) ?_
    refine va_get (D := X.1) (ci := 6) (C := R_Model) (T := F_Model) (N := 24) hx hb hts hin_Model hown hK.1 hP 0 rw_0 rfl 5 (by decide) (hts _ (wd_2 159 rfl rfl)) (fun _ h9 => h9) rfl d_M_isFinished_21 ?_
    refine lv_iload_n hx hb d_M_isFinished_24 rfl (lv_at hl 1 rfl) ?_
    refine va_iald hx hb hK.1 hP 5 0 rw_5 rfl (vp_in_nI (n := i) (by omega) (by omega)) d_M_isFinished_25 ?_
    rw [nI_clamp (n := i) (by omega)]
    refine va_iald hx hb hK.1 hP 1 0 rw_1 rfl (vp_in_nI (n := sA_rt A i) (by omega) (by omega)) d_M_isFinished_26 ?_
    rw [nI_clamp (n := sA_rt A i) (by omega)]
    refine lv_icmp_ne (tgt := 34) hx hb d_M_isFinished_27 rfl (fun h27 => ?_) (fun h27 => ?_)
    ·
      refine lv_iconst (v := 0) hx hb d_M_isFinished_34 rfl ?_
      exact W.zret (v := b2i false) hx hb hrt (b2i_nar _) (fun t ht hW => ⟨_, rfl, by rw [f_M_isFinished, if_pos h7, if_neg h27], ht⟩) (fun q h => by cases h) d_M_isFinished_35
    ·
      refine lv_iconst (v := 1) hx hb d_M_isFinished_30 rfl ?_
      refine lv_goto (tgt := 35) hx hb d_M_isFinished_31 rfl ?_
      exact W.zret (v := b2i true) hx hb hrt (b2i_nar _) (fun t ht hW => ⟨_, rfl, by rw [f_M_isFinished, if_pos h7, if_pos h27], ht⟩) (fun q h => by cases h) d_M_isFinished_35
abbrev rm_M_isWay : Room := { frames := 2, cells := 0, slots := 0, locals := 41 }
def f_M_isWay (A : St) (r : Nat) (g : Nat) (u : Nat) (v : Nat) : Bool :=
  if 4 ≤ (nI u) then
    if 4 ≤ (nI v) then
      if (f_M_areNear (nI u) (nI v)) then
        if (nI g) = (nI (sA_len A r)) then
          if 2 ≤ (nI u) then
            if (nI u) = 4 then
              if (nI v) = 5 then
                true
              else
                if (nI u) ≤ 1 then
                  false
                else
                  if 4 ≤ (nI u) then
                    false
                  else
                    if (nI v) = 4 then
                      true
                    else
                      false
            else
              if (nI u) ≤ 1 then
                false
              else
                if 4 ≤ (nI u) then
                  false
                else
                  if (nI v) = 4 then
                    true
                  else
                    false
          else
            if (nI v) = 5 then
              true
            else
              if (nI u) = 4 then
                if (nI v) = 5 then
                  true
                else
                  if (nI u) ≤ 1 then
                    false
                  else
                    if 4 ≤ (nI u) then
                      false
                    else
                      if (nI v) = 4 then
                        true
                      else
                        false
              else
                if (nI u) ≤ 1 then
                  false
                else
                  if 4 ≤ (nI u) then
                    false
                  else
                    if (nI v) = 4 then
                      true
                    else
                      false
        else
          if 4 ≤ (nI v) then
            if (nI u) < 2 then
              if (nI v) = 4 then
                if (nI u) = 4 then
                  false
                else
                  if ((nI (sA_mk A r g)) &&& 12) = 0 then
                    false
                  else
                    true
              else
                false
            else
              if (nI u) = 5 then
                if (nI v) = 4 then
                  if (nI u) = 4 then
                    false
                  else
                    if ((nI (sA_mk A r g)) &&& 12) = 0 then
                      false
                    else
                      true
                else
                  false
              else
                if (nI v) = 4 then
                  if (nI u) = 4 then
                    false
                  else
                    if ((nI (sA_mk A r g)) &&& 3) = 0 then
                      false
                    else
                      true
                else
                  false
          else
            if (((nI (sA_mk A r g)) >>> ((nI v) &&& 31)) &&& 1) = 1 then
              true
            else
              false
      else
        false
    else
      if ((sA_dn A).testBit v) then
        false
      else
        if (f_M_areNear (nI u) (nI v)) then
          if (nI g) = (nI (sA_len A r)) then
            if 2 ≤ (nI u) then
              if (nI u) = 4 then
                if (nI v) = 5 then
                  true
                else
                  if (nI u) ≤ 1 then
                    false
                  else
                    if 4 ≤ (nI u) then
                      false
                    else
                      if (nI v) = 4 then
                        true
                      else
                        false
              else
                if (nI u) ≤ 1 then
                  false
                else
                  if 4 ≤ (nI u) then
                    false
                  else
                    if (nI v) = 4 then
                      true
                    else
                      false
            else
              if (nI v) = 5 then
                true
              else
                if (nI u) = 4 then
                  if (nI v) = 5 then
                    true
                  else
                    if (nI u) ≤ 1 then
                      false
                    else
                      if 4 ≤ (nI u) then
                        false
                      else
                        if (nI v) = 4 then
                          true
                        else
                          false
                else
                  if (nI u) ≤ 1 then
                    false
                  else
                    if 4 ≤ (nI u) then
                      false
                    else
                      if (nI v) = 4 then
                        true
                      else
                        false
          else
            if 4 ≤ (nI v) then
              if (nI u) < 2 then
                if (nI v) = 4 then
                  if (nI u) = 4 then
                    false
                  else
                    if ((nI (sA_mk A r g)) &&& 12) = 0 then
                      false
                    else
                      true
                else
                  false
              else
                if (nI u) = 5 then
                  if (nI v) = 4 then
                    if (nI u) = 4 then
                      false
                    else
                      if ((nI (sA_mk A r g)) &&& 12) = 0 then
                        false
                      else
                        true
                  else
                    false
                else
                  if (nI v) = 4 then
                    if (nI u) = 4 then
                      false
                    else
                      if ((nI (sA_mk A r g)) &&& 3) = 0 then
                        false
                      else
                        true
                  else
                    false
            else
              if (((nI (sA_mk A r g)) >>> ((nI v) &&& 31)) &&& 1) = 1 then
                true
              else
                false
        else
          false
  else
    if ((sA_dn A).testBit u) then
      false
    else
      if 4 ≤ (nI v) then
        if (f_M_areNear (nI u) (nI v)) then
          if (nI g) = (nI (sA_len A r)) then
            if 2 ≤ (nI u) then
              if (nI u) = 4 then
                if (nI v) = 5 then
                  true
                else
                  if (nI u) ≤ 1 then
                    false
                  else
                    if 4 ≤ (nI u) then
                      false
                    else
                      if (nI v) = 4 then
                        true
                      else
                        false
              else
                if (nI u) ≤ 1 then
                  false
                else
                  if 4 ≤ (nI u) then
                    false
                  else
                    if (nI v) = 4 then
                      true
                    else
                      false
            else
              if (nI v) = 5 then
                true
              else
                if (nI u) = 4 then
                  if (nI v) = 5 then
                    true
                  else
                    if (nI u) ≤ 1 then
                      false
                    else
                      if 4 ≤ (nI u) then
                        false
                      else
                        if (nI v) = 4 then
                          true
                        else
                          false
                else
                  if (nI u) ≤ 1 then
                    false
                  else
                    if 4 ≤ (nI u) then
                      false
                    else
                      if (nI v) = 4 then
                        true
                      else
                        false
          else
            if 4 ≤ (nI v) then
              if (nI u) < 2 then
                if (nI v) = 4 then
                  if (nI u) = 4 then
                    false
                  else
                    if ((nI (sA_mk A r g)) &&& 12) = 0 then
                      false
                    else
                      true
                else
                  false
              else
                if (nI u) = 5 then
                  if (nI v) = 4 then
                    if (nI u) = 4 then
                      false
                    else
                      if ((nI (sA_mk A r g)) &&& 12) = 0 then
                        false
                      else
                        true
                  else
                    false
                else
                  if (nI v) = 4 then
                    if (nI u) = 4 then
                      false
                    else
                      if ((nI (sA_mk A r g)) &&& 3) = 0 then
                        false
                      else
                        true
                  else
                    false
            else
              if (((nI (sA_mk A r g)) >>> ((nI v) &&& 31)) &&& 1) = 1 then
                true
              else
                false
        else
          false
      else
        if ((sA_dn A).testBit v) then
          false
        else
          if (f_M_areNear (nI u) (nI v)) then
            if (nI g) = (nI (sA_len A r)) then
              if 2 ≤ (nI u) then
                if (nI u) = 4 then
                  if (nI v) = 5 then
                    true
                  else
                    if (nI u) ≤ 1 then
                      false
                    else
                      if 4 ≤ (nI u) then
                        false
                      else
                        if (nI v) = 4 then
                          true
                        else
                          false
                else
                  if (nI u) ≤ 1 then
                    false
                  else
                    if 4 ≤ (nI u) then
                      false
                    else
                      if (nI v) = 4 then
                        true
                      else
                        false
              else
                if (nI v) = 5 then
                  true
                else
                  if (nI u) = 4 then
                    if (nI v) = 5 then
                      true
                    else
                      if (nI u) ≤ 1 then
                        false
                      else
                        if 4 ≤ (nI u) then
                          false
                        else
                          if (nI v) = 4 then
                            true
                          else
                            false
                  else
                    if (nI u) ≤ 1 then
                      false
                    else
                      if 4 ≤ (nI u) then
                        false
                      else
                        if (nI v) = 4 then
                          true
                        else
                          false
            else
              if 4 ≤ (nI v) then
                if (nI u) < 2 then
                  if (nI v) = 4 then
                    if (nI u) = 4 then
                      false
                    else
                      if ((nI (sA_mk A r g)) &&& 12) = 0 then
                        false
                      else
                        true
                  else
                    false
                else
                  if (nI u) = 5 then
                    if (nI v) = 4 then
                      if (nI u) = 4 then
                        false
                      else
                        if ((nI (sA_mk A r g)) &&& 12) = 0 then
                          false
                        else
                          true
                    else
                      false
                  else
                    if (nI v) = 4 then
                      if (nI u) = 4 then
                        false
                      else
                        if ((nI (sA_mk A r g)) &&& 3) = 0 then
                          false
                        else
                          true
                    else
                      false
              else
                if (((nI (sA_mk A r g)) >>> ((nI v) &&& 31)) &&& 1) = 1 then
                  true
                else
                  false
          else
            false
set_option maxRecDepth 20000 in
set_option maxHeartbeats 4000000 in
theorem c_M_isWay (l : Launch) (X : Xt) (G : Gr) (A : St) (r : Nat) (g : Nat) (u : Nat) (v : Nat) (hR : rOk A) (hr : r < 2) (hg : g ≤ sA_len A r) (hu : u < 6) (hv : v < 6) : Met l y_M_isWay (Cond.code y_M_isWay b_M_isWay 7 (some .boolean) :: WA) rm_M_isWay (va_Pc [.ref (rA_ad G 0), .int (nI r), .int (nI g), .int (nI u), .int (nI v)] (fun U => QR X G A U.heap ∧ KK X U)) (vp_Si (fun ans => ans = b2i (f_M_isWay A r g u v))) 0 0 (fun _ => False) := by
  refine vx_met (cc := b_M_isWay) (maxL := 7) (ret := (some .boolean)) (by decide) rfl (Nat.le_of_ble_eq_true rfl) ?_
  intro p e s m below meth c ls hx hb hrt hts hown hlocks hname hml hB hl
  obtain ⟨hP, hK⟩ := hB
  have hown : s.vm.findClass R_Model = some m.cls := hown
  have hl : lv_has ls 7 [(0, .ref (rA_ad G 0)), (1, .int (nI r)), (2, .int (nI g)), (3, .int (nI u)), (4, .int (nI v))] := hl
  have hP : va_P X.1 classes (rw_ X G A) s.heap := hP
  have wl := hR.1 r
  refine lv_iload_n hx hb d_M_isWay_0 rfl (lv_at hl 3 rfl) ?_
  refine lv_iconst (v := 4) hx hb d_M_isWay_1 rfl ?_
  refine lv_icmp_ge (tgt := 14) hx hb d_M_isWay_2 rfl (fun h2 => ?_) (fun h2 => ?_)
  ·
    refine lv_iload hx hb d_M_isWay_14 (lv_at hl 4 rfl) ?_
    refine lv_iconst (v := 4) hx hb d_M_isWay_16 rfl ?_
    refine lv_icmp_ge (tgt := 30) hx hb d_M_isWay_17 rfl (fun h17 => ?_) (fun h17 => ?_)
    ·
      refine lv_iload_n hx hb d_M_isWay_30 rfl (lv_at hl 3 rfl) ?_
      refine lv_iload hx hb d_M_isWay_31 (lv_at hl 4 rfl) ?_
      refine vp_callSi (W.runS (As := [.int (nI u), .int (nI v)]) (rest := []) ⟨hx, hb, hml, hown, hts⟩ (c_M_areNear l X (nI u) (nI v)) (va_cwS 2 hts (gT (wd_3 41 rfl rfl) (wd_3 42 rfl rfl) (wd_1 6 rfl rfl) (wd_3 43 rfl rfl)) rfl rfl rfl hd_M_areNear ⟨Nat.le_of_ble_eq_true rfl, Nat.le_of_ble_eq_true rfl⟩) (vx_preS (P := fun _ => True) trivial hK) rfl rfl hl.1 rfl (lv_room (Nat.le_of_ble_eq_true rfl)) d_M_isWay_33 ⟨Nat.zero_le _, Nat.zero_le _⟩) (fun r33 e33 => ?_)
      subst e33
      refine lv_if_ne (tgt := 41) hx hb d_M_isWay_36 rfl (fun h36 => ?_) (fun h36 => ?_)
      ·
        have h36 := b2i_t h36
        refine lv_iload_n hx hb d_M_isWay_41 rfl (lv_at hl 2 rfl) ?_
        refine lv_aload_n hx hb d_M_isWay_42 rfl (lv_at hl 0 rfl) ?_
        refine va_get (D := X.1) (ci := 6) (C := R_Model) (T := F_Model) (N := 24) hx hb hts hin_Model hown hK.1 hP 0 rw_0 rfl 0 (by decide) (hts _ (wd_2 154 rfl rfl)) (fun _ h9 => h9) rfl d_M_isWay_43 ?_
        refine lv_iload_n hx hb d_M_isWay_46 rfl (lv_at hl 1 rfl) ?_
        refine va_iald hx hb hK.1 hP 1 0 rw_1 rfl (vp_in_nI (n := r) (by omega) (by omega)) d_M_isWay_47 ?_
        rw [nI_clamp (n := r) (by omega)]
        refine lv_icmp_ne (tgt := 95) hx hb d_M_isWay_48 rfl (fun h48 => ?_) (fun h48 => ?_)
        ·
          refine lv_aload_n hx hb d_M_isWay_95 rfl (lv_at hl 0 rfl) ?_
          refine va_get (D := X.1) (ci := 6) (C := R_Model) (T := F_Model) (N := 24) hx hb hts hin_Model hown hK.1 hP 0 rw_0 rfl 1 (by decide) (hts _ (wd_2 155 rfl rfl)) (fun _ h9 => h9) rfl d_M_isWay_96 ?_
          refine lv_iconst (v := 3) hx hb d_M_isWay_99 rfl ?_
          refine lv_iload_n hx hb d_M_isWay_100 rfl (lv_at hl 1 rfl) ?_
          refine lv_imul hx hb d_M_isWay_101 ?_
          refine lv_iload_n hx hb d_M_isWay_102 rfl (lv_at hl 2 rfl) ?_
          refine lv_iadd hx hb d_M_isWay_103 ?_
          have hg3 : g < 3 := by
            have : g ≠ sA_len A r := fun z => h48 (by rw [z])
            omega
          rw [idx3]
          refine va_iald hx hb hK.1 hP 2 0 rw_2 rfl (vp_in_nI (n := 3 * r + g) (by omega) (by omega)) d_M_isWay_104 ?_
          rw [nI_clamp (n := 3 * r + g) (by omega)]
          rw [show (3 * r + g) / 3 = r by omega, show (3 * r + g) % 3 = g by omega]
          refine lv_istore (lv' := [(5, .int (nI (sA_mk A r g))), (0, .ref (rA_ad G 0)), (1, .int (nI r)), (2, .int (nI g)), (3, .int (nI u)), (4, .int (nI v))]) hx hb d_M_isWay_105 hl (by decide) rfl (fun ls hl => ?_)
          refine lv_iload hx hb d_M_isWay_107 (lv_at hl 5 rfl) ?_
          refine lv_iconst (v := 4) hx hb d_M_isWay_109 rfl ?_
          refine lv_icmp_ge (tgt := 130) hx hb d_M_isWay_110 rfl (fun h110 => ?_) (fun h110 => ?_)
          ·
            refine lv_iload_n hx hb d_M_isWay_130 rfl (lv_at hl 4 rfl) ?_
            refine lv_iconst (v := 2) hx hb d_M_isWay_131 rfl ?_
            refine lv_icmp_lt (tgt := 140) hx hb d_M_isWay_132 rfl (fun h132 => ?_) (fun h132 => ?_)
            ·
              refine lv_bipush (v := 12) hx hb d_M_isWay_140 rfl ?_
              refine lv_goto (tgt := 146) hx hb d_M_isWay_142 rfl ?_
              refine lv_istore (lv' := [(6, .int 12), (5, .int (nI (sA_mk A r g))), (0, .ref (rA_ad G 0)), (1, .int (nI r)), (2, .int (nI g)), (3, .int (nI u)), (4, .int (nI v))]) hx hb d_M_isWay_146 hl (by decide) rfl (fun ls hl => ?_)
              refine lv_iload hx hb d_M_isWay_148 (lv_at hl 6 rfl) ?_
              refine lv_iconst (v := 4) hx hb d_M_isWay_150 rfl ?_
              refine lv_icmp_ne (tgt := 171) hx hb d_M_isWay_151 rfl (fun h151 => ?_) (fun h151 => ?_)
              ·
                refine lv_iconst (v := 0) hx hb d_M_isWay_171 rfl ?_
                exact W.zret (v := b2i false) hx hb hrt (b2i_nar _) (fun t ht hW => ⟨_, rfl, by rw [f_M_isWay, if_pos h2, if_pos h17, if_pos h36, if_neg h48, if_pos h110, if_pos h132, if_neg h151], ht⟩) (fun q h => by cases h) d_M_isWay_172
              ·
                refine lv_iload_n hx hb d_M_isWay_154 rfl (lv_at hl 5 rfl) ?_
                refine lv_iconst (v := 4) hx hb d_M_isWay_155 rfl ?_
                refine lv_icmp_eq (tgt := 171) hx hb d_M_isWay_156 rfl (fun h156 => ?_) (fun h156 => ?_)
                ·
                  refine lv_iconst (v := 0) hx hb d_M_isWay_171 rfl ?_
                  exact W.zret (v := b2i false) hx hb hrt (b2i_nar _) (fun t ht hW => ⟨_, rfl, by rw [f_M_isWay, if_pos h2, if_pos h17, if_pos h36, if_neg h48, if_pos h110, if_pos h132, if_pos h151, if_pos h156], ht⟩) (fun q h => by cases h) d_M_isWay_172
                ·
                  refine lv_iload hx hb d_M_isWay_159 (lv_at hl 1 rfl) ?_
                  refine lv_iload hx hb d_M_isWay_161 (lv_at hl 0 rfl) ?_
                  refine lv_iand hx hb d_M_isWay_163 ?_
                  refine lv_if_eq (tgt := 171) hx hb d_M_isWay_164 rfl (fun h164 => ?_) (fun h164 => ?_)
                  ·
                    refine lv_iconst (v := 0) hx hb d_M_isWay_171 rfl ?_
                    exact W.zret (v := b2i false) hx hb hrt (b2i_nar _) (fun t ht hW => ⟨_, rfl, by rw [f_M_isWay, if_pos h2, if_pos h17, if_pos h36, if_neg h48, if_pos h110, if_pos h132, if_pos h151, if_neg h156, if_pos h164], ht⟩) (fun q h => by cases h) d_M_isWay_172
                  ·
                    refine lv_iconst (v := 1) hx hb d_M_isWay_167 rfl ?_
                    refine lv_goto (tgt := 172) hx hb d_M_isWay_168 rfl ?_
                    exact W.zret (v := b2i true) hx hb hrt (b2i_nar _) (fun t ht hW => ⟨_, rfl, by rw [f_M_isWay, if_pos h2, if_pos h17, if_pos h36, if_neg h48, if_pos h110, if_pos h132, if_pos h151, if_neg h156, if_neg h164], ht⟩) (fun q h => by cases h) d_M_isWay_172
            ·
              refine lv_iload_n hx hb d_M_isWay_135 rfl (lv_at hl 4 rfl) ?_
              refine lv_iconst (v := 5) hx hb d_M_isWay_136 rfl ?_
              refine lv_icmp_ne (tgt := 145) hx hb d_M_isWay_137 rfl (fun h137 => ?_) (fun h137 => ?_)
              ·
                refine lv_iconst (v := 3) hx hb d_M_isWay_145 rfl ?_
                refine lv_istore (lv' := [(6, .int 3), (5, .int (nI (sA_mk A r g))), (0, .ref (rA_ad G 0)), (1, .int (nI r)), (2, .int (nI g)), (3, .int (nI u)), (4, .int (nI v))]) hx hb d_M_isWay_146 hl (by decide) rfl (fun ls hl => ?_)
                refine lv_iload hx hb d_M_isWay_148 (lv_at hl 6 rfl) ?_
                refine lv_iconst (v := 4) hx hb d_M_isWay_150 rfl ?_
                refine lv_icmp_ne (tgt := 171) hx hb d_M_isWay_151 rfl (fun h151 => ?_) (fun h151 => ?_)
                ·
                  refine lv_iconst (v := 0) hx hb d_M_isWay_171 rfl ?_
                  exact W.zret (v := b2i false) hx hb hrt (b2i_nar _) (fun t ht hW => ⟨_, rfl, by rw [f_M_isWay, if_pos h2, if_pos h17, if_pos h36, if_neg h48, if_pos h110, if_neg h132, if_neg h137, if_neg h151], ht⟩) (fun q h => by cases h) d_M_isWay_172
                ·
                  refine lv_iload_n hx hb d_M_isWay_154 rfl (lv_at hl 5 rfl) ?_
                  refine lv_iconst (v := 4) hx hb d_M_isWay_155 rfl ?_
                  refine lv_icmp_eq (tgt := 171) hx hb d_M_isWay_156 rfl (fun h156 => ?_) (fun h156 => ?_)
                  ·
                    refine lv_iconst (v := 0) hx hb d_M_isWay_171 rfl ?_
                    exact W.zret (v := b2i false) hx hb hrt (b2i_nar _) (fun t ht hW => ⟨_, rfl, by rw [f_M_isWay, if_pos h2, if_pos h17, if_pos h36, if_neg h48, if_pos h110, if_neg h132, if_neg h137, if_pos h151, if_pos h156], ht⟩) (fun q h => by cases h) d_M_isWay_172
                  ·
                    refine lv_iload hx hb d_M_isWay_159 (lv_at hl 1 rfl) ?_
                    refine lv_iload hx hb d_M_isWay_161 (lv_at hl 0 rfl) ?_
                    refine lv_iand hx hb d_M_isWay_163 ?_
                    refine lv_if_eq (tgt := 171) hx hb d_M_isWay_164 rfl (fun h164 => ?_) (fun h164 => ?_)
                    ·
                      refine lv_iconst (v := 0) hx hb d_M_isWay_171 rfl ?_
                      exact W.zret (v := b2i false) hx hb hrt (b2i_nar _) (fun t ht hW => ⟨_, rfl, by rw [f_M_isWay, if_pos h2, if_pos h17, if_pos h36, if_neg h48, if_pos h110, if_neg h132, if_neg h137, if_pos h151, if_neg h156, if_pos h164], ht⟩) (fun q h => by cases h) d_M_isWay_172
                    ·
                      refine lv_iconst (v := 1) hx hb d_M_isWay_167 rfl ?_
                      refine lv_goto (tgt := 172) hx hb d_M_isWay_168 rfl ?_
                      exact W.zret (v := b2i true) hx hb hrt (b2i_nar _) (fun t ht hW => ⟨_, rfl, by rw [f_M_isWay, if_pos h2, if_pos h17, if_pos h36, if_neg h48, if_pos h110, if_neg h132, if_neg h137, if_pos h151, if_neg h156, if_neg h164], ht⟩) (fun q h => by cases h) d_M_isWay_172
              ·
                refine lv_bipush (v := 12) hx hb d_M_isWay_140 rfl ?_
                refine lv_goto (tgt := 146) hx hb d_M_isWay_142 rfl ?_
                refine lv_istore (lv' := [(6, .int 12), (5, .int (nI (sA_mk A r g))), (0, .ref (rA_ad G 0)), (1, .int (nI r)), (2, .int (nI g)), (3, .int (nI u)), (4, .int (nI v))]) hx hb d_M_isWay_146 hl (by decide) rfl (fun ls hl => ?_)
                refine lv_iload hx hb d_M_isWay_148 (lv_at hl 6 rfl) ?_
                refine lv_iconst (v := 4) hx hb d_M_isWay_150 rfl ?_
                refine lv_icmp_ne (tgt := 171) hx hb d_M_isWay_151 rfl (fun h151 => ?_) (fun h151 => ?_)
                ·
                  refine lv_iconst (v := 0) hx hb d_M_isWay_171 rfl ?_
                  exact W.zret (v := b2i false) hx hb hrt (b2i_nar _) (fun t ht hW => ⟨_, rfl, by rw [f_M_isWay, if_pos h2, if_pos h17, if_pos h36, if_neg h48, if_pos h110, if_neg h132, if_pos h137, if_neg h151], ht⟩) (fun q h => by cases h) d_M_isWay_172
                ·
                  refine lv_iload_n hx hb d_M_isWay_154 rfl (lv_at hl 5 rfl) ?_
                  refine lv_iconst (v := 4) hx hb d_M_isWay_155 rfl ?_
                  refine lv_icmp_eq (tgt := 171) hx hb d_M_isWay_156 rfl (fun h156 => ?_) (fun h156 => ?_)
                  ·
                    refine lv_iconst (v := 0) hx hb d_M_isWay_171 rfl ?_
                    exact W.zret (v := b2i false) hx hb hrt (b2i_nar _) (fun t ht hW => ⟨_, rfl, by rw [f_M_isWay, if_pos h2, if_pos h17, if_pos h36, if_neg h48, if_pos h110, if_neg h132, if_pos h137, if_pos h151, if_pos h156], ht⟩) (fun q h => by cases h) d_M_isWay_172
                  ·
                    refine lv_iload hx hb d_M_isWay_159 (lv_at hl 1 rfl) ?_
                    refine lv_iload hx hb d_M_isWay_161 (lv_at hl 0 rfl) ?_
                    refine lv_iand hx hb d_M_isWay_163 ?_
                    refine lv_if_eq (tgt := 171) hx hb d_M_isWay_164 rfl (fun h164 => ?_) (fun h164 => ?_)
                    ·
                      refine lv_iconst (v := 0) hx hb d_M_isWay_171 rfl ?_
                      exact W.zret (v := b2i false) hx hb hrt (b2i_nar _) (fun t ht hW => ⟨_, rfl, by rw [f_M_isWay, if_pos h2, if_pos h17, if_pos h36, if_neg h48, if_pos h110, if_neg h132, if_pos h137, if_pos h151, if_neg h156, if_pos h164], ht⟩) (fun q h => by cases h) d_M_isWay_172
                    ·
                      refine lv_iconst (v := 1) hx hb d_M_isWay_167 rfl ?_
                      refine lv_goto (tgt := 172) hx hb d_M_isWay_168 rfl ?_
                      exact W.zret (v := b2i true) hx hb hrt (b2i_nar _) (fun t ht hW => ⟨_, rfl, by rw [f_M_isWay, if_pos h2, if_pos h17, if_pos h36, if_neg h48, if_pos h110, if_neg h132, if_pos h137, if_pos h151, if_neg h156, if_neg h164], ht⟩) (fun q h => by cases h) d_M_isWay_172
          ·
            refine lv_iload hx hb d_M_isWay_113 (lv_at hl 0 rfl) ?_
            refine lv_iload hx hb d_M_isWay_115 (lv_at hl 5 rfl) ?_
            refine lv_ishr hx hb d_M_isWay_117 ?_
            refine lv_iconst (v := 1) hx hb d_M_isWay_118 rfl ?_
            refine lv_iand hx hb d_M_isWay_119 ?_
            refine lv_iconst (v := 1) hx hb d_M_isWay_120 rfl ?_
            refine lv_icmp_ne (tgt := 128) hx hb d_M_isWay_121 rfl (fun h121 => ?_) (fun h121 => ?_)
            ·
              refine lv_iconst (v := 0) hx hb d_M_isWay_128 rfl ?_
              exact W.zret (v := b2i false) hx hb hrt (b2i_nar _) (fun t ht hW => ⟨_, rfl, by rw [f_M_isWay, if_pos h2, if_pos h17, if_pos h36, if_neg h48, if_neg h110, if_neg h121], ht⟩) (fun q h => by cases h) d_M_isWay_129
            ·
              refine lv_iconst (v := 1) hx hb d_M_isWay_124 rfl ?_
              refine lv_goto (tgt := 129) hx hb d_M_isWay_125 rfl ?_
              exact W.zret (v := b2i true) hx hb hrt (b2i_nar _) (fun t ht hW => ⟨_, rfl, by rw [f_M_isWay, if_pos h2, if_pos h17, if_pos h36, if_neg h48, if_neg h110, if_pos h121], ht⟩) (fun q h => by cases h) d_M_isWay_129
        ·
          refine lv_iload_n hx hb d_M_isWay_51 rfl (lv_at hl 3 rfl) ?_
          refine lv_iconst (v := 2) hx hb d_M_isWay_52 rfl ?_
          refine lv_icmp_ge (tgt := 62) hx hb d_M_isWay_53 rfl (fun h53 => ?_) (fun h53 => ?_)
          ·
            refine lv_iload_n hx hb d_M_isWay_62 rfl (lv_at hl 3 rfl) ?_
            refine lv_iconst (v := 4) hx hb d_M_isWay_63 rfl ?_
            refine lv_icmp_ne (tgt := 73) hx hb d_M_isWay_64 rfl (fun h64 => ?_) (fun h64 => ?_)
            ·
              refine lv_iload_n hx hb d_M_isWay_73 rfl (lv_at hl 3 rfl) ?_
              refine lv_iconst (v := 1) hx hb d_M_isWay_74 rfl ?_
              refine lv_icmp_le (tgt := 93) hx hb d_M_isWay_75 rfl (fun h75 => ?_) (fun h75 => ?_)
              ·
                refine lv_iconst (v := 0) hx hb d_M_isWay_93 rfl ?_
                exact W.zret (v := b2i false) hx hb hrt (b2i_nar _) (fun t ht hW => ⟨_, rfl, by rw [f_M_isWay, if_pos h2, if_pos h17, if_pos h36, if_pos h48, if_pos h53, if_neg h64, if_pos h75], ht⟩) (fun q h => by cases h) d_M_isWay_94
              ·
                refine lv_iload_n hx hb d_M_isWay_78 rfl (lv_at hl 3 rfl) ?_
                refine lv_iconst (v := 4) hx hb d_M_isWay_79 rfl ?_
                refine lv_icmp_ge (tgt := 93) hx hb d_M_isWay_80 rfl (fun h80 => ?_) (fun h80 => ?_)
                ·
                  refine lv_iconst (v := 0) hx hb d_M_isWay_93 rfl ?_
                  exact W.zret (v := b2i false) hx hb hrt (b2i_nar _) (fun t ht hW => ⟨_, rfl, by rw [f_M_isWay, if_pos h2, if_pos h17, if_pos h36, if_pos h48, if_pos h53, if_neg h64, if_neg h75, if_pos h80], ht⟩) (fun q h => by cases h) d_M_isWay_94
                ·
                  refine lv_iload hx hb d_M_isWay_83 (lv_at hl 4 rfl) ?_
                  refine lv_iconst (v := 4) hx hb d_M_isWay_85 rfl ?_
                  refine lv_icmp_ne (tgt := 93) hx hb d_M_isWay_86 rfl (fun h86 => ?_) (fun h86 => ?_)
                  ·
                    refine lv_iconst (v := 0) hx hb d_M_isWay_93 rfl ?_
                    exact W.zret (v := b2i false) hx hb hrt (b2i_nar _) (fun t ht hW => ⟨_, rfl, by rw [f_M_isWay, if_pos h2, if_pos h17, if_pos h36, if_pos h48, if_pos h53, if_neg h64, if_neg h75, if_neg h80, if_neg h86], ht⟩) (fun q h => by cases h) d_M_isWay_94
                  ·
                    refine lv_iconst (v := 1) hx hb d_M_isWay_89 rfl ?_
                    refine lv_goto (tgt := 94) hx hb d_M_isWay_90 rfl ?_
                    exact W.zret (v := b2i true) hx hb hrt (b2i_nar _) (fun t ht hW => ⟨_, rfl, by rw [f_M_isWay, if_pos h2, if_pos h17, if_pos h36, if_pos h48, if_pos h53, if_neg h64, if_neg h75, if_neg h80, if_pos h86], ht⟩) (fun q h => by cases h) d_M_isWay_94
            ·
              refine lv_iload hx hb d_M_isWay_67 (lv_at hl 4 rfl) ?_
              refine lv_iconst (v := 5) hx hb d_M_isWay_69 rfl ?_
              refine lv_icmp_eq (tgt := 89) hx hb d_M_isWay_70 rfl (fun h70 => ?_) (fun h70 => ?_)
              ·
                refine lv_iconst (v := 1) hx hb d_M_isWay_89 rfl ?_
                refine lv_goto (tgt := 94) hx hb d_M_isWay_90 rfl ?_
                exact W.zret (v := b2i true) hx hb hrt (b2i_nar _) (fun t ht hW => ⟨_, rfl, by rw [f_M_isWay, if_pos h2, if_pos h17, if_pos h36, if_pos h48, if_pos h53, if_pos h64, if_pos h70], ht⟩) (fun q h => by cases h) d_M_isWay_94
              ·
                refine lv_iload_n hx hb d_M_isWay_73 rfl (lv_at hl 3 rfl) ?_
                refine lv_iconst (v := 1) hx hb d_M_isWay_74 rfl ?_
                refine lv_icmp_le (tgt := 93) hx hb d_M_isWay_75 rfl (fun h75 => ?_) (fun h75 => ?_)
                ·
                  refine lv_iconst (v := 0) hx hb d_M_isWay_93 rfl ?_
                  exact W.zret (v := b2i false) hx hb hrt (b2i_nar _) (fun t ht hW => ⟨_, rfl, by rw [f_M_isWay, if_pos h2, if_pos h17, if_pos h36, if_pos h48, if_pos h53, if_pos h64, if_neg h70, if_pos h75], ht⟩) (fun q h => by cases h) d_M_isWay_94
                ·
                  refine lv_iload_n hx hb d_M_isWay_78 rfl (lv_at hl 3 rfl) ?_
                  refine lv_iconst (v := 4) hx hb d_M_isWay_79 rfl ?_
                  refine lv_icmp_ge (tgt := 93) hx hb d_M_isWay_80 rfl (fun h80 => ?_) (fun h80 => ?_)
                  ·
                    refine lv_iconst (v := 0) hx hb d_M_isWay_93 rfl ?_
                    exact W.zret (v := b2i false) hx hb hrt (b2i_nar _) (fun t ht hW => ⟨_, rfl, by rw [f_M_isWay, if_pos h2, if_pos h17, if_pos h36, if_pos h48, if_pos h53, if_pos h64, if_neg h70, if_neg h75, if_pos h80], ht⟩) (fun q h => by cases h) d_M_isWay_94
                  ·
                    refine lv_iload hx hb d_M_isWay_83 (lv_at hl 4 rfl) ?_
                    refine lv_iconst (v := 4) hx hb d_M_isWay_85 rfl ?_
                    refine lv_icmp_ne (tgt := 93) hx hb d_M_isWay_86 rfl (fun h86 => ?_) (fun h86 => ?_)
                    ·
                      refine lv_iconst (v := 0) hx hb d_M_isWay_93 rfl ?_
                      exact W.zret (v := b2i false) hx hb hrt (b2i_nar _) (fun t ht hW => ⟨_, rfl, by rw [f_M_isWay, if_pos h2, if_pos h17, if_pos h36, if_pos h48, if_pos h53, if_pos h64, if_neg h70, if_neg h75, if_neg h80, if_neg h86], ht⟩) (fun q h => by cases h) d_M_isWay_94
                    ·
                      refine lv_iconst (v := 1) hx hb d_M_isWay_89 rfl ?_
                      refine lv_goto (tgt := 94) hx hb d_M_isWay_90 rfl ?_
                      exact W.zret (v := b2i true) hx hb hrt (b2i_nar _) (fun t ht hW => ⟨_, rfl, by rw [f_M_isWay, if_pos h2, if_pos h17, if_pos h36, if_pos h48, if_pos h53, if_pos h64, if_neg h70, if_neg h75, if_neg h80, if_pos h86], ht⟩) (fun q h => by cases h) d_M_isWay_94
          ·
            refine lv_iload hx hb d_M_isWay_56 (lv_at hl 4 rfl) ?_
            refine lv_iconst (v := 5) hx hb d_M_isWay_58 rfl ?_
            refine lv_icmp_eq (tgt := 89) hx hb d_M_isWay_59 rfl (fun h59 => ?_) (fun h59 => ?_)
            ·
              refine lv_iconst (v := 1) hx hb d_M_isWay_89 rfl ?_
              refine lv_goto (tgt := 94) hx hb d_M_isWay_90 rfl ?_
              exact W.zret (v := b2i true) hx hb hrt (b2i_nar _) (fun t ht hW => ⟨_, rfl, by rw [f_M_isWay, if_pos h2, if_pos h17, if_pos h36, if_pos h48, if_neg h53, if_pos h59], ht⟩) (fun q h => by cases h) d_M_isWay_94
            ·
              refine lv_iload_n hx hb d_M_isWay_62 rfl (lv_at hl 3 rfl) ?_
              refine lv_iconst (v := 4) hx hb d_M_isWay_63 rfl ?_
              refine lv_icmp_ne (tgt := 73) hx hb d_M_isWay_64 rfl (fun h64 => ?_) (fun h64 => ?_)
              ·
                refine lv_iload_n hx hb d_M_isWay_73 rfl (lv_at hl 3 rfl) ?_
                refine lv_iconst (v := 1) hx hb d_M_isWay_74 rfl ?_
                refine lv_icmp_le (tgt := 93) hx hb d_M_isWay_75 rfl (fun h75 => ?_) (fun h75 => ?_)
                ·
                  refine lv_iconst (v := 0) hx hb d_M_isWay_93 rfl ?_
                  exact W.zret (v := b2i false) hx hb hrt (b2i_nar _) (fun t ht hW => ⟨_, rfl, by rw [f_M_isWay, if_pos h2, if_pos h17, if_pos h36, if_pos h48, if_neg h53, if_neg h59, if_neg h64, if_pos h75], ht⟩) (fun q h => by cases h) d_M_isWay_94
                ·
                  refine lv_iload_n hx hb d_M_isWay_78 rfl (lv_at hl 3 rfl) ?_
                  refine lv_iconst (v := 4) hx hb d_M_isWay_79 rfl ?_
                  refine lv_icmp_ge (tgt := 93) hx hb d_M_isWay_80 rfl (fun h80 => ?_) (fun h80 => ?_)
                  ·
                    refine lv_iconst (v := 0) hx hb d_M_isWay_93 rfl ?_
                    exact W.zret (v := b2i false) hx hb hrt (b2i_nar _) (fun t ht hW => ⟨_, rfl, by rw [f_M_isWay, if_pos h2, if_pos h17, if_pos h36, if_pos h48, if_neg h53, if_neg h59, if_neg h64, if_neg h75, if_pos h80], ht⟩) (fun q h => by cases h) d_M_isWay_94
                  ·
                    refine lv_iload hx hb d_M_isWay_83 (lv_at hl 4 rfl) ?_
                    refine lv_iconst (v := 4) hx hb d_M_isWay_85 rfl ?_
                    refine lv_icmp_ne (tgt := 93) hx hb d_M_isWay_86 rfl (fun h86 => ?_) (fun h86 => ?_)
                    ·
                      refine lv_iconst (v := 0) hx hb d_M_isWay_93 rfl ?_
                      exact W.zret (v := b2i false) hx hb hrt (b2i_nar _) (fun t ht hW => ⟨_, rfl, by rw [f_M_isWay, if_pos h2, if_pos h17, if_pos h36, if_pos h48, if_neg h53, if_neg h59, if_neg h64, if_neg h75, if_neg h80, if_neg h86], ht⟩) (fun q h => by cases h) d_M_isWay_94
                    ·
                      refine lv_iconst (v := 1) hx hb d_M_isWay_89 rfl ?_
                      refine lv_goto (tgt := 94) hx hb d_M_isWay_90 rfl ?_
                      exact W.zret (v := b2i true) hx hb hrt (b2i_nar _) (fun t ht hW => ⟨_, rfl, by rw [f_M_isWay, if_pos h2, if_pos h17, if_pos h36, if_pos h48, if_neg h53, if_neg h59, if_neg h64, if_neg h75, if_neg h80, if_pos h86], ht⟩) (fun q h => by cases h) d_M_isWay_94
              ·
                refine lv_iload hx hb d_M_isWay_67 (lv_at hl 4 rfl) ?_
                refine lv_iconst (v := 5) hx hb d_M_isWay_69 rfl ?_
                refine lv_icmp_eq (tgt := 89) hx hb d_M_isWay_70 rfl (fun h70 => ?_) (fun h70 => ?_)
                ·
                  refine lv_iconst (v := 1) hx hb d_M_isWay_89 rfl ?_
                  refine lv_goto (tgt := 94) hx hb d_M_isWay_90 rfl ?_
                  exact W.zret (v := b2i true) hx hb hrt (b2i_nar _) (fun t ht hW => ⟨_, rfl, by rw [f_M_isWay, if_pos h2, if_pos h17, if_pos h36, if_pos h48, if_neg h53, if_neg h59, if_pos h64, if_pos h70], ht⟩) (fun q h => by cases h) d_M_isWay_94
                ·
                  refine lv_iload_n hx hb d_M_isWay_73 rfl (lv_at hl 3 rfl) ?_
                  refine lv_iconst (v := 1) hx hb d_M_isWay_74 rfl ?_
                  refine lv_icmp_le (tgt := 93) hx hb d_M_isWay_75 rfl (fun h75 => ?_) (fun h75 => ?_)
                  ·
                    refine lv_iconst (v := 0) hx hb d_M_isWay_93 rfl ?_
                    exact W.zret (v := b2i false) hx hb hrt (b2i_nar _) (fun t ht hW => ⟨_, rfl, by rw [f_M_isWay, if_pos h2, if_pos h17, if_pos h36, if_pos h48, if_neg h53, if_neg h59, if_pos h64, if_neg h70, if_pos h75], ht⟩) (fun q h => by cases h) d_M_isWay_94
                  ·
                    refine lv_iload_n hx hb d_M_isWay_78 rfl (lv_at hl 3 rfl) ?_
                    refine lv_iconst (v := 4) hx hb d_M_isWay_79 rfl ?_
                    refine lv_icmp_ge (tgt := 93) hx hb d_M_isWay_80 rfl (fun h80 => ?_) (fun h80 => ?_)
                    ·
                      refine lv_iconst (v := 0) hx hb d_M_isWay_93 rfl ?_
                      exact W.zret (v := b2i false) hx hb hrt (b2i_nar _) (fun t ht hW => ⟨_, rfl, by rw [f_M_isWay, if_pos h2, if_pos h17, if_pos h36, if_pos h48, if_neg h53, if_neg h59, if_pos h64, if_neg h70, if_neg h75, if_pos h80], ht⟩) (fun q h => by cases h) d_M_isWay_94
                    ·
                      refine lv_iload hx hb d_M_isWay_83 (lv_at hl 4 rfl) ?_
                      refine lv_iconst (v := 4) hx hb d_M_isWay_85 rfl ?_
                      refine lv_icmp_ne (tgt := 93) hx hb d_M_isWay_86 rfl (fun h86 => ?_) (fun h86 => ?_)
                      ·
                        refine lv_iconst (v := 0) hx hb d_M_isWay_93 rfl ?_
                        exact W.zret (v := b2i false) hx hb hrt (b2i_nar _) (fun t ht hW => ⟨_, rfl, by rw [f_M_isWay, if_pos h2, if_pos h17, if_pos h36, if_pos h48, if_neg h53, if_neg h59, if_pos h64, if_neg h70, if_neg h75, if_neg h80, if_neg h86], ht⟩) (fun q h => by cases h) d_M_isWay_94
                      ·
                        refine lv_iconst (v := 1) hx hb d_M_isWay_89 rfl ?_
                        refine lv_goto (tgt := 94) hx hb d_M_isWay_90 rfl ?_
                        exact W.zret (v := b2i true) hx hb hrt (b2i_nar _) (fun t ht hW => ⟨_, rfl, by rw [f_M_isWay, if_pos h2, if_pos h17, if_pos h36, if_pos h48, if_neg h53, if_neg h59, if_pos h64, if_neg h70, if_neg h75, if_neg h80, if_pos h86], ht⟩) (fun q h => by cases h) d_M_isWay_94
      ·
        have h36 := b2i_f h36
        refine lv_iconst (v := 0) hx hb d_M_isWay_39 rfl ?_
        exact W.zret (v := b2i false) hx hb hrt (b2i_nar _) (fun t ht hW => ⟨_, rfl, by rw [f_M_isWay, if_pos h2, if_pos h17, if_neg (nt_of h36)], ht⟩) (fun q h => by cases h) d_M_isWay_40
    ·
      refine lv_aload_n hx hb d_M_isWay_20 rfl (lv_at hl 0 rfl) ?_
      refine va_get (D := X.1) (ci := 6) (C := R_Model) (T := F_Model) (N := 24) hx hb hts hin_Model hown hK.1 hP 0 rw_0 rfl 14 (by decide) (hts _ (wd_2 168 rfl rfl)) (fun _ h9 => h9) rfl d_M_isWay_21 ?_
      refine lv_iload hx hb d_M_isWay_24 (lv_at hl 4 rfl) ?_
      refine va_zald hx hb hK.1 hP 14 2 rw_14 rfl (vp_in_nI (lt4 hv h17) (by omega)) d_M_isWay_26 ?_
      rw [nI_clamp (n := v) (by omega)]
      refine lv_if_ne (tgt := 39) hx hb d_M_isWay_27 rfl (fun h27 => ?_) (fun h27 => ?_)
      ·
        have h27 := b2i_t h27
        refine lv_iconst (v := 0) hx hb d_M_isWay_39 rfl ?_
        exact W.zret (v := b2i false) hx hb hrt (b2i_nar _) (fun t ht hW => ⟨_, rfl, by rw [f_M_isWay, if_pos h2, if_neg h17, if_pos h27], ht⟩) (fun q h => by cases h) d_M_isWay_40
      ·
        have h27 := b2i_f h27
        refine lv_iload_n hx hb d_M_isWay_30 rfl (lv_at hl 3 rfl) ?_
        refine lv_iload hx hb d_M_isWay_31 (lv_at hl 4 rfl) ?_
        refine vp_callSi (W.runS (As := [.int (nI u), .int (nI v)]) (rest := []) ⟨hx, hb, hml, hown, hts⟩ (c_M_areNear l X (nI u) (nI v)) (va_cwS 2 hts (gT (wd_3 41 rfl rfl) (wd_3 42 rfl rfl) (wd_1 6 rfl rfl) (wd_3 43 rfl rfl)) rfl rfl rfl hd_M_areNear ⟨Nat.le_of_ble_eq_true rfl, Nat.le_of_ble_eq_true rfl⟩) (vx_preS (P := fun _ => True) trivial hK) rfl rfl hl.1 rfl (lv_room (Nat.le_of_ble_eq_true rfl)) d_M_isWay_33 ⟨Nat.zero_le _, Nat.zero_le _⟩) (fun r33 e33 => ?_)
        subst e33
        refine lv_if_ne (tgt := 41) hx hb d_M_isWay_36 rfl (fun h36 => ?_) (fun h36 => ?_)
        ·
          have h36 := b2i_t h36
          refine lv_iload_n hx hb d_M_isWay_41 rfl (lv_at hl 2 rfl) ?_
          refine lv_aload_n hx hb d_M_isWay_42 rfl (lv_at hl 0 rfl) ?_
          refine va_get (D := X.1) (ci := 6) (C := R_Model) (T := F_Model) (N := 24) hx hb hts hin_Model hown hK.1 hP 0 rw_0 rfl 0 (by decide) (hts _ (wd_2 154 rfl rfl)) (fun _ h9 => h9) rfl d_M_isWay_43 ?_
          refine lv_iload_n hx hb d_M_isWay_46 rfl (lv_at hl 1 rfl) ?_
          refine va_iald hx hb hK.1 hP 1 0 rw_1 rfl (vp_in_nI (n := r) (by omega) (by omega)) d_M_isWay_47 ?_
          rw [nI_clamp (n := r) (by omega)]
          refine lv_icmp_ne (tgt := 95) hx hb d_M_isWay_48 rfl (fun h48 => ?_) (fun h48 => ?_)
          ·
            refine lv_aload_n hx hb d_M_isWay_95 rfl (lv_at hl 0 rfl) ?_
            refine va_get (D := X.1) (ci := 6) (C := R_Model) (T := F_Model) (N := 24) hx hb hts hin_Model hown hK.1 hP 0 rw_0 rfl 1 (by decide) (hts _ (wd_2 155 rfl rfl)) (fun _ h9 => h9) rfl d_M_isWay_96 ?_
            refine lv_iconst (v := 3) hx hb d_M_isWay_99 rfl ?_
            refine lv_iload_n hx hb d_M_isWay_100 rfl (lv_at hl 1 rfl) ?_
            refine lv_imul hx hb d_M_isWay_101 ?_
            refine lv_iload_n hx hb d_M_isWay_102 rfl (lv_at hl 2 rfl) ?_
            refine lv_iadd hx hb d_M_isWay_103 ?_
            have hg3 : g < 3 := by
              have : g ≠ sA_len A r := fun z => h48 (by rw [z])
              omega
            rw [idx3]
            refine va_iald hx hb hK.1 hP 2 0 rw_2 rfl (vp_in_nI (n := 3 * r + g) (by omega) (by omega)) d_M_isWay_104 ?_
            rw [nI_clamp (n := 3 * r + g) (by omega)]
            rw [show (3 * r + g) / 3 = r by omega, show (3 * r + g) % 3 = g by omega]
            refine lv_istore (lv' := [(5, .int (nI (sA_mk A r g))), (0, .ref (rA_ad G 0)), (1, .int (nI r)), (2, .int (nI g)), (3, .int (nI u)), (4, .int (nI v))]) hx hb d_M_isWay_105 hl (by decide) rfl (fun ls hl => ?_)
            refine lv_iload hx hb d_M_isWay_107 (lv_at hl 5 rfl) ?_
            refine lv_iconst (v := 4) hx hb d_M_isWay_109 rfl ?_
            refine lv_icmp_ge (tgt := 130) hx hb d_M_isWay_110 rfl (fun h110 => ?_) (fun h110 => ?_)
            ·
              refine lv_iload_n hx hb d_M_isWay_130 rfl (lv_at hl 4 rfl) ?_
              refine lv_iconst (v := 2) hx hb d_M_isWay_131 rfl ?_
              refine lv_icmp_lt (tgt := 140) hx hb d_M_isWay_132 rfl (fun h132 => ?_) (fun h132 => ?_)
              ·
                refine lv_bipush (v := 12) hx hb d_M_isWay_140 rfl ?_
                refine lv_goto (tgt := 146) hx hb d_M_isWay_142 rfl ?_
                refine lv_istore (lv' := [(6, .int 12), (5, .int (nI (sA_mk A r g))), (0, .ref (rA_ad G 0)), (1, .int (nI r)), (2, .int (nI g)), (3, .int (nI u)), (4, .int (nI v))]) hx hb d_M_isWay_146 hl (by decide) rfl (fun ls hl => ?_)
                refine lv_iload hx hb d_M_isWay_148 (lv_at hl 6 rfl) ?_
                refine lv_iconst (v := 4) hx hb d_M_isWay_150 rfl ?_
                refine lv_icmp_ne (tgt := 171) hx hb d_M_isWay_151 rfl (fun h151 => ?_) (fun h151 => ?_)
                ·
                  refine lv_iconst (v := 0) hx hb d_M_isWay_171 rfl ?_
                  exact W.zret (v := b2i false) hx hb hrt (b2i_nar _) (fun t ht hW => ⟨_, rfl, by rw [f_M_isWay, if_pos h2, if_neg h17, if_neg (nt_of h27), if_pos h36, if_neg h48, if_pos h110, if_pos h132, if_neg h151], ht⟩) (fun q h => by cases h) d_M_isWay_172
                ·
                  refine lv_iload_n hx hb d_M_isWay_154 rfl (lv_at hl 5 rfl) ?_
                  refine lv_iconst (v := 4) hx hb d_M_isWay_155 rfl ?_
                  refine lv_icmp_eq (tgt := 171) hx hb d_M_isWay_156 rfl (fun h156 => ?_) (fun h156 => ?_)
                  ·
                    refine lv_iconst (v := 0) hx hb d_M_isWay_171 rfl ?_
                    exact W.zret (v := b2i false) hx hb hrt (b2i_nar _) (fun t ht hW => ⟨_, rfl, by rw [f_M_isWay, if_pos h2, if_neg h17, if_neg (nt_of h27), if_pos h36, if_neg h48, if_pos h110, if_pos h132, if_pos h151, if_pos h156], ht⟩) (fun q h => by cases h) d_M_isWay_172
                  ·
                    refine lv_iload hx hb d_M_isWay_159 (lv_at hl 1 rfl) ?_
                    refine lv_iload hx hb d_M_isWay_161 (lv_at hl 0 rfl) ?_
                    refine lv_iand hx hb d_M_isWay_163 ?_
                    refine lv_if_eq (tgt := 171) hx hb d_M_isWay_164 rfl (fun h164 => ?_) (fun h164 => ?_)
                    ·
                      refine lv_iconst (v := 0) hx hb d_M_isWay_171 rfl ?_
                      exact W.zret (v := b2i false) hx hb hrt (b2i_nar _) (fun t ht hW => ⟨_, rfl, by rw [f_M_isWay, if_pos h2, if_neg h17, if_neg (nt_of h27), if_pos h36, if_neg h48, if_pos h110, if_pos h132, if_pos h151, if_neg h156, if_pos h164], ht⟩) (fun q h => by cases h) d_M_isWay_172
                    ·
                      refine lv_iconst (v := 1) hx hb d_M_isWay_167 rfl ?_
                      refine lv_goto (tgt := 172) hx hb d_M_isWay_168 rfl ?_
                      exact W.zret (v := b2i true) hx hb hrt (b2i_nar _) (fun t ht hW => ⟨_, rfl, by rw [f_M_isWay, if_pos h2, if_neg h17, if_neg (nt_of h27), if_pos h36, if_neg h48, if_pos h110, if_pos h132, if_pos h151, if_neg h156, if_neg h164], ht⟩) (fun q h => by cases h) d_M_isWay_172
              ·
                refine lv_iload_n hx hb d_M_isWay_135 rfl (lv_at hl 4 rfl) ?_
                refine lv_iconst (v := 5) hx hb d_M_isWay_136 rfl ?_
                refine lv_icmp_ne (tgt := 145) hx hb d_M_isWay_137 rfl (fun h137 => ?_) (fun h137 => ?_)
                ·
                  refine lv_iconst (v := 3) hx hb d_M_isWay_145 rfl ?_
                  refine lv_istore (lv' := [(6, .int 3), (5, .int (nI (sA_mk A r g))), (0, .ref (rA_ad G 0)), (1, .int (nI r)), (2, .int (nI g)), (3, .int (nI u)), (4, .int (nI v))]) hx hb d_M_isWay_146 hl (by decide) rfl (fun ls hl => ?_)
                  refine lv_iload hx hb d_M_isWay_148 (lv_at hl 6 rfl) ?_
                  refine lv_iconst (v := 4) hx hb d_M_isWay_150 rfl ?_
                  refine lv_icmp_ne (tgt := 171) hx hb d_M_isWay_151 rfl (fun h151 => ?_) (fun h151 => ?_)
                  ·
                    refine lv_iconst (v := 0) hx hb d_M_isWay_171 rfl ?_
                    exact W.zret (v := b2i false) hx hb hrt (b2i_nar _) (fun t ht hW => ⟨_, rfl, by rw [f_M_isWay, if_pos h2, if_neg h17, if_neg (nt_of h27), if_pos h36, if_neg h48, if_pos h110, if_neg h132, if_neg h137, if_neg h151], ht⟩) (fun q h => by cases h) d_M_isWay_172
                  ·
                    refine lv_iload_n hx hb d_M_isWay_154 rfl (lv_at hl 5 rfl) ?_
                    refine lv_iconst (v := 4) hx hb d_M_isWay_155 rfl ?_
                    refine lv_icmp_eq (tgt := 171) hx hb d_M_isWay_156 rfl (fun h156 => ?_) (fun h156 => ?_)
                    ·
                      refine lv_iconst (v := 0) hx hb d_M_isWay_171 rfl ?_
                      exact W.zret (v := b2i false) hx hb hrt (b2i_nar _) (fun t ht hW => ⟨_, rfl, by rw [f_M_isWay, if_pos h2, if_neg h17, if_neg (nt_of h27), if_pos h36, if_neg h48, if_pos h110, if_neg h132, if_neg h137, if_pos h151, if_pos h156], ht⟩) (fun q h => by cases h) d_M_isWay_172
                    ·
                      refine lv_iload hx hb d_M_isWay_159 (lv_at hl 1 rfl) ?_
                      refine lv_iload hx hb d_M_isWay_161 (lv_at hl 0 rfl) ?_
                      refine lv_iand hx hb d_M_isWay_163 ?_
                      refine lv_if_eq (tgt := 171) hx hb d_M_isWay_164 rfl (fun h164 => ?_) (fun h164 => ?_)
                      ·
                        refine lv_iconst (v := 0) hx hb d_M_isWay_171 rfl ?_
                        exact W.zret (v := b2i false) hx hb hrt (b2i_nar _) (fun t ht hW => ⟨_, rfl, by rw [f_M_isWay, if_pos h2, if_neg h17, if_neg (nt_of h27), if_pos h36, if_neg h48, if_pos h110, if_neg h132, if_neg h137, if_pos h151, if_neg h156, if_pos h164], ht⟩) (fun q h => by cases h) d_M_isWay_172
                      ·
                        refine lv_iconst (v := 1) hx hb d_M_isWay_167 rfl ?_
                        refine lv_goto (tgt := 172) hx hb d_M_isWay_168 rfl ?_
                        exact W.zret (v := b2i true) hx hb hrt (b2i_nar _) (fun t ht hW => ⟨_, rfl, by rw [f_M_isWay, if_pos h2, if_neg h17, if_neg (nt_of h27), if_pos h36, if_neg h48, if_pos h110, if_neg h132, if_neg h137, if_pos h151, if_neg h156, if_neg h164], ht⟩) (fun q h => by cases h) d_M_isWay_172
                ·
                  refine lv_bipush (v := 12) hx hb d_M_isWay_140 rfl ?_
                  refine lv_goto (tgt := 146) hx hb d_M_isWay_142 rfl ?_
                  refine lv_istore (lv' := [(6, .int 12), (5, .int (nI (sA_mk A r g))), (0, .ref (rA_ad G 0)), (1, .int (nI r)), (2, .int (nI g)), (3, .int (nI u)), (4, .int (nI v))]) hx hb d_M_isWay_146 hl (by decide) rfl (fun ls hl => ?_)
                  refine lv_iload hx hb d_M_isWay_148 (lv_at hl 6 rfl) ?_
                  refine lv_iconst (v := 4) hx hb d_M_isWay_150 rfl ?_
                  refine lv_icmp_ne (tgt := 171) hx hb d_M_isWay_151 rfl (fun h151 => ?_) (fun h151 => ?_)
                  ·
                    refine lv_iconst (v := 0) hx hb d_M_isWay_171 rfl ?_
                    exact W.zret (v := b2i false) hx hb hrt (b2i_nar _) (fun t ht hW => ⟨_, rfl, by rw [f_M_isWay, if_pos h2, if_neg h17, if_neg (nt_of h27), if_pos h36, if_neg h48, if_pos h110, if_neg h132, if_pos h137, if_neg h151], ht⟩) (fun q h => by cases h) d_M_isWay_172
                  ·
                    refine lv_iload_n hx hb d_M_isWay_154 rfl (lv_at hl 5 rfl) ?_
                    refine lv_iconst (v := 4) hx hb d_M_isWay_155 rfl ?_
                    refine lv_icmp_eq (tgt := 171) hx hb d_M_isWay_156 rfl (fun h156 => ?_) (fun h156 => ?_)
                    ·
                      refine lv_iconst (v := 0) hx hb d_M_isWay_171 rfl ?_
                      exact W.zret (v := b2i false) hx hb hrt (b2i_nar _) (fun t ht hW => ⟨_, rfl, by rw [f_M_isWay, if_pos h2, if_neg h17, if_neg (nt_of h27), if_pos h36, if_neg h48, if_pos h110, if_neg h132, if_pos h137, if_pos h151, if_pos h156], ht⟩) (fun q h => by cases h) d_M_isWay_172
                    ·
                      refine lv_iload hx hb d_M_isWay_159 (lv_at hl 1 rfl) ?_
                      refine lv_iload hx hb d_M_isWay_161 (lv_at hl 0 rfl) ?_
                      refine lv_iand hx hb d_M_isWay_163 ?_
                      refine lv_if_eq (tgt := 171) hx hb d_M_isWay_164 rfl (fun h164 => ?_) (fun h164 => ?_)
                      ·
                        refine lv_iconst (v := 0) hx hb d_M_isWay_171 rfl ?_
                        exact W.zret (v := b2i false) hx hb hrt (b2i_nar _) (fun t ht hW => ⟨_, rfl, by rw [f_M_isWay, if_pos h2, if_neg h17, if_neg (nt_of h27), if_pos h36, if_neg h48, if_pos h110, if_neg h132, if_pos h137, if_pos h151, if_neg h156, if_pos h164], ht⟩) (fun q h => by cases h) d_M_isWay_172
                      ·
                        refine lv_iconst (v := 1) hx hb d_M_isWay_167 rfl ?_
                        refine lv_goto (tgt := 172) hx hb d_M_isWay_168 rfl ?_
                        exact W.zret (v := b2i true) hx hb hrt (b2i_nar _) (fun t ht hW => ⟨_, rfl, by rw [f_M_isWay, if_pos h2, if_neg h17, if_neg (nt_of h27), if_pos h36, if_neg h48, if_pos h110, if_neg h132, if_pos h137, if_pos h151, if_neg h156, if_neg h164], ht⟩) (fun q h => by cases h) d_M_isWay_172
            ·
              refine lv_iload hx hb d_M_isWay_113 (lv_at hl 0 rfl) ?_
              refine lv_iload hx hb d_M_isWay_115 (lv_at hl 5 rfl) ?_
              refine lv_ishr hx hb d_M_isWay_117 ?_
              refine lv_iconst (v := 1) hx hb d_M_isWay_118 rfl ?_
              refine lv_iand hx hb d_M_isWay_119 ?_
              refine lv_iconst (v := 1) hx hb d_M_isWay_120 rfl ?_
              refine lv_icmp_ne (tgt := 128) hx hb d_M_isWay_121 rfl (fun h121 => ?_) (fun h121 => ?_)
              ·
                refine lv_iconst (v := 0) hx hb d_M_isWay_128 rfl ?_
                exact W.zret (v := b2i false) hx hb hrt (b2i_nar _) (fun t ht hW => ⟨_, rfl, by rw [f_M_isWay, if_pos h2, if_neg h17, if_neg (nt_of h27), if_pos h36, if_neg h48, if_neg h110, if_neg h121], ht⟩) (fun q h => by cases h) d_M_isWay_129
              ·
                refine lv_iconst (v := 1) hx hb d_M_isWay_124 rfl ?_
                refine lv_goto (tgt := 129) hx hb d_M_isWay_125 rfl ?_
                exact W.zret (v := b2i true) hx hb hrt (b2i_nar _) (fun t ht hW => ⟨_, rfl, by rw [f_M_isWay, if_pos h2, if_neg h17, if_neg (nt_of h27), if_pos h36, if_neg h48, if_neg h110, if_pos h121], ht⟩) (fun q h => by cases h) d_M_isWay_129
          ·
            refine lv_iload_n hx hb d_M_isWay_51 rfl (lv_at hl 3 rfl) ?_
            refine lv_iconst (v := 2) hx hb d_M_isWay_52 rfl ?_
            refine lv_icmp_ge (tgt := 62) hx hb d_M_isWay_53 rfl (fun h53 => ?_) (fun h53 => ?_)
            ·
              refine lv_iload_n hx hb d_M_isWay_62 rfl (lv_at hl 3 rfl) ?_
              refine lv_iconst (v := 4) hx hb d_M_isWay_63 rfl ?_
              refine lv_icmp_ne (tgt := 73) hx hb d_M_isWay_64 rfl (fun h64 => ?_) (fun h64 => ?_)
              ·
                refine lv_iload_n hx hb d_M_isWay_73 rfl (lv_at hl 3 rfl) ?_
                refine lv_iconst (v := 1) hx hb d_M_isWay_74 rfl ?_
                refine lv_icmp_le (tgt := 93) hx hb d_M_isWay_75 rfl (fun h75 => ?_) (fun h75 => ?_)
                ·
                  refine lv_iconst (v := 0) hx hb d_M_isWay_93 rfl ?_
                  exact W.zret (v := b2i false) hx hb hrt (b2i_nar _) (fun t ht hW => ⟨_, rfl, by rw [f_M_isWay, if_pos h2, if_neg h17, if_neg (nt_of h27), if_pos h36, if_pos h48, if_pos h53, if_neg h64, if_pos h75], ht⟩) (fun q h => by cases h) d_M_isWay_94
                ·
                  refine lv_iload_n hx hb d_M_isWay_78 rfl (lv_at hl 3 rfl) ?_
                  refine lv_iconst (v := 4) hx hb d_M_isWay_79 rfl ?_
                  refine lv_icmp_ge (tgt := 93) hx hb d_M_isWay_80 rfl (fun h80 => ?_) (fun h80 => ?_)
                  ·
                    refine lv_iconst (v := 0) hx hb d_M_isWay_93 rfl ?_
                    exact W.zret (v := b2i false) hx hb hrt (b2i_nar _) (fun t ht hW => ⟨_, rfl, by rw [f_M_isWay, if_pos h2, if_neg h17, if_neg (nt_of h27), if_pos h36, if_pos h48, if_pos h53, if_neg h64, if_neg h75, if_pos h80], ht⟩) (fun q h => by cases h) d_M_isWay_94
                  ·
                    refine lv_iload hx hb d_M_isWay_83 (lv_at hl 4 rfl) ?_
                    refine lv_iconst (v := 4) hx hb d_M_isWay_85 rfl ?_
                    refine lv_icmp_ne (tgt := 93) hx hb d_M_isWay_86 rfl (fun h86 => ?_) (fun h86 => ?_)
                    ·
                      refine lv_iconst (v := 0) hx hb d_M_isWay_93 rfl ?_
                      exact W.zret (v := b2i false) hx hb hrt (b2i_nar _) (fun t ht hW => ⟨_, rfl, by rw [f_M_isWay, if_pos h2, if_neg h17, if_neg (nt_of h27), if_pos h36, if_pos h48, if_pos h53, if_neg h64, if_neg h75, if_neg h80, if_neg h86], ht⟩) (fun q h => by cases h) d_M_isWay_94
                    ·
                      refine lv_iconst (v := 1) hx hb d_M_isWay_89 rfl ?_
                      refine lv_goto (tgt := 94) hx hb d_M_isWay_90 rfl ?_
                      exact W.zret (v := b2i true) hx hb hrt (b2i_nar _) (fun t ht hW => ⟨_, rfl, by rw [f_M_isWay, if_pos h2, if_neg h17, if_neg (nt_of h27), if_pos h36, if_pos h48, if_pos h53, if_neg h64, if_neg h75, if_neg h80, if_pos h86], ht⟩) (fun q h => by cases h) d_M_isWay_94
              ·
                refine lv_iload hx hb d_M_isWay_67 (lv_at hl 4 rfl) ?_
                refine lv_iconst (v := 5) hx hb d_M_isWay_69 rfl ?_
                refine lv_icmp_eq (tgt := 89) hx hb d_M_isWay_70 rfl (fun h70 => ?_) (fun h70 => ?_)
                ·
                  refine lv_iconst (v := 1) hx hb d_M_isWay_89 rfl ?_
                  refine lv_goto (tgt := 94) hx hb d_M_isWay_90 rfl ?_
                  exact W.zret (v := b2i true) hx hb hrt (b2i_nar _) (fun t ht hW => ⟨_, rfl, by rw [f_M_isWay, if_pos h2, if_neg h17, if_neg (nt_of h27), if_pos h36, if_pos h48, if_pos h53, if_pos h64, if_pos h70], ht⟩) (fun q h => by cases h) d_M_isWay_94
                ·
                  refine lv_iload_n hx hb d_M_isWay_73 rfl (lv_at hl 3 rfl) ?_
                  refine lv_iconst (v := 1) hx hb d_M_isWay_74 rfl ?_
                  refine lv_icmp_le (tgt := 93) hx hb d_M_isWay_75 rfl (fun h75 => ?_) (fun h75 => ?_)
                  ·
                    refine lv_iconst (v := 0) hx hb d_M_isWay_93 rfl ?_
                    exact W.zret (v := b2i false) hx hb hrt (b2i_nar _) (fun t ht hW => ⟨_, rfl, by rw [f_M_isWay, if_pos h2, if_neg h17, if_neg (nt_of h27), if_pos h36, if_pos h48, if_pos h53, if_pos h64, if_neg h70, if_pos h75], ht⟩) (fun q h => by cases h) d_M_isWay_94
                  ·
                    refine lv_iload_n hx hb d_M_isWay_78 rfl (lv_at hl 3 rfl) ?_
                    refine lv_iconst (v := 4) hx hb d_M_isWay_79 rfl ?_
                    refine lv_icmp_ge (tgt := 93) hx hb d_M_isWay_80 rfl (fun h80 => ?_) (fun h80 => ?_)
                    ·
                      refine lv_iconst (v := 0) hx hb d_M_isWay_93 rfl ?_
                      exact W.zret (v := b2i false) hx hb hrt (b2i_nar _) (fun t ht hW => ⟨_, rfl, by rw [f_M_isWay, if_pos h2, if_neg h17, if_neg (nt_of h27), if_pos h36, if_pos h48, if_pos h53, if_pos h64, if_neg h70, if_neg h75, if_pos h80], ht⟩) (fun q h => by cases h) d_M_isWay_94
                    ·
                      refine lv_iload hx hb d_M_isWay_83 (lv_at hl 4 rfl) ?_
                      refine lv_iconst (v := 4) hx hb d_M_isWay_85 rfl ?_
                      refine lv_icmp_ne (tgt := 93) hx hb d_M_isWay_86 rfl (fun h86 => ?_) (fun h86 => ?_)
                      ·
                        refine lv_iconst (v := 0) hx hb d_M_isWay_93 rfl ?_
                        exact W.zret (v := b2i false) hx hb hrt (b2i_nar _) (fun t ht hW => ⟨_, rfl, by rw [f_M_isWay, if_pos h2, if_neg h17, if_neg (nt_of h27), if_pos h36, if_pos h48, if_pos h53, if_pos h64, if_neg h70, if_neg h75, if_neg h80, if_neg h86], ht⟩) (fun q h => by cases h) d_M_isWay_94
                      ·
                        refine lv_iconst (v := 1) hx hb d_M_isWay_89 rfl ?_
                        refine lv_goto (tgt := 94) hx hb d_M_isWay_90 rfl ?_
                        exact W.zret (v := b2i true) hx hb hrt (b2i_nar _) (fun t ht hW => ⟨_, rfl, by rw [f_M_isWay, if_pos h2, if_neg h17, if_neg (nt_of h27), if_pos h36, if_pos h48, if_pos h53, if_pos h64, if_neg h70, if_neg h75, if_neg h80, if_pos h86], ht⟩) (fun q h => by cases h) d_M_isWay_94
            ·
              refine lv_iload hx hb d_M_isWay_56 (lv_at hl 4 rfl) ?_
              refine lv_iconst (v := 5) hx hb d_M_isWay_58 rfl ?_
              refine lv_icmp_eq (tgt := 89) hx hb d_M_isWay_59 rfl (fun h59 => ?_) (fun h59 => ?_)
              ·
                refine lv_iconst (v := 1) hx hb d_M_isWay_89 rfl ?_
                refine lv_goto (tgt := 94) hx hb d_M_isWay_90 rfl ?_
                exact W.zret (v := b2i true) hx hb hrt (b2i_nar _) (fun t ht hW => ⟨_, rfl, by rw [f_M_isWay, if_pos h2, if_neg h17, if_neg (nt_of h27), if_pos h36, if_pos h48, if_neg h53, if_pos h59], ht⟩) (fun q h => by cases h) d_M_isWay_94
              ·
                refine lv_iload_n hx hb d_M_isWay_62 rfl (lv_at hl 3 rfl) ?_
                refine lv_iconst (v := 4) hx hb d_M_isWay_63 rfl ?_
                refine lv_icmp_ne (tgt := 73) hx hb d_M_isWay_64 rfl (fun h64 => ?_) (fun h64 => ?_)
                ·
                  refine lv_iload_n hx hb d_M_isWay_73 rfl (lv_at hl 3 rfl) ?_
                  refine lv_iconst (v := 1) hx hb d_M_isWay_74 rfl ?_
                  refine lv_icmp_le (tgt := 93) hx hb d_M_isWay_75 rfl (fun h75 => ?_) (fun h75 => ?_)
                  ·
                    refine lv_iconst (v := 0) hx hb d_M_isWay_93 rfl ?_
                    exact W.zret (v := b2i false) hx hb hrt (b2i_nar _) (fun t ht hW => ⟨_, rfl, by rw [f_M_isWay, if_pos h2, if_neg h17, if_neg (nt_of h27), if_pos h36, if_pos h48, if_neg h53, if_neg h59, if_neg h64, if_pos h75], ht⟩) (fun q h => by cases h) d_M_isWay_94
                  ·
                    refine lv_iload_n hx hb d_M_isWay_78 rfl (lv_at hl 3 rfl) ?_
                    refine lv_iconst (v := 4) hx hb d_M_isWay_79 rfl ?_
                    refine lv_icmp_ge (tgt := 93) hx hb d_M_isWay_80 rfl (fun h80 => ?_) (fun h80 => ?_)
                    ·
                      refine lv_iconst (v := 0) hx hb d_M_isWay_93 rfl ?_
                      exact W.zret (v := b2i false) hx hb hrt (b2i_nar _) (fun t ht hW => ⟨_, rfl, by rw [f_M_isWay, if_pos h2, if_neg h17, if_neg (nt_of h27), if_pos h36, if_pos h48, if_neg h53, if_neg h59, if_neg h64, if_neg h75, if_pos h80], ht⟩) (fun q h => by cases h) d_M_isWay_94
                    ·
                      refine lv_iload hx hb d_M_isWay_83 (lv_at hl 4 rfl) ?_
                      refine lv_iconst (v := 4) hx hb d_M_isWay_85 rfl ?_
                      refine lv_icmp_ne (tgt := 93) hx hb d_M_isWay_86 rfl (fun h86 => ?_) (fun h86 => ?_)
                      ·
                        refine lv_iconst (v := 0) hx hb d_M_isWay_93 rfl ?_
                        exact W.zret (v := b2i false) hx hb hrt (b2i_nar _) (fun t ht hW => ⟨_, rfl, by rw [f_M_isWay, if_pos h2, if_neg h17, if_neg (nt_of h27), if_pos h36, if_pos h48, if_neg h53, if_neg h59, if_neg h64, if_neg h75, if_neg h80, if_neg h86], ht⟩) (fun q h => by cases h) d_M_isWay_94
                      ·
                        refine lv_iconst (v := 1) hx hb d_M_isWay_89 rfl ?_
                        refine lv_goto (tgt := 94) hx hb d_M_isWay_90 rfl ?_
                        exact W.zret (v := b2i true) hx hb hrt (b2i_nar _) (fun t ht hW => ⟨_, rfl, by rw [f_M_isWay, if_pos h2, if_neg h17, if_neg (nt_of h27), if_pos h36, if_pos h48, if_neg h53, if_neg h59, if_neg h64, if_neg h75, if_neg h80, if_pos h86], ht⟩) (fun q h => by cases h) d_M_isWay_94
                ·
                  refine lv_iload hx hb d_M_isWay_67 (lv_at hl 4 rfl) ?_
                  refine lv_iconst (v := 5) hx hb d_M_isWay_69 rfl ?_
                  refine lv_icmp_eq (tgt := 89) hx hb d_M_isWay_70 rfl (fun h70 => ?_) (fun h70 => ?_)
                  ·
                    refine lv_iconst (v := 1) hx hb d_M_isWay_89 rfl ?_
                    refine lv_goto (tgt := 94) hx hb d_M_isWay_90 rfl ?_
                    exact W.zret (v := b2i true) hx hb hrt (b2i_nar _) (fun t ht hW => ⟨_, rfl, by rw [f_M_isWay, if_pos h2, if_neg h17, if_neg (nt_of h27), if_pos h36, if_pos h48, if_neg h53, if_neg h59, if_pos h64, if_pos h70], ht⟩) (fun q h => by cases h) d_M_isWay_94
                  ·
                    refine lv_iload_n hx hb d_M_isWay_73 rfl (lv_at hl 3 rfl) ?_
                    refine lv_iconst (v := 1) hx hb d_M_isWay_74 rfl ?_
                    refine lv_icmp_le (tgt := 93) hx hb d_M_isWay_75 rfl (fun h75 => ?_) (fun h75 => ?_)
                    ·
                      refine lv_iconst (v := 0) hx hb d_M_isWay_93 rfl ?_
                      exact W.zret (v := b2i false) hx hb hrt (b2i_nar _) (fun t ht hW => ⟨_, rfl, by rw [f_M_isWay, if_pos h2, if_neg h17, if_neg (nt_of h27), if_pos h36, if_pos h48, if_neg h53, if_neg h59, if_pos h64, if_neg h70, if_pos h75], ht⟩) (fun q h => by cases h) d_M_isWay_94
                    ·
                      refine lv_iload_n hx hb d_M_isWay_78 rfl (lv_at hl 3 rfl) ?_
                      refine lv_iconst (v := 4) hx hb d_M_isWay_79 rfl ?_
                      refine lv_icmp_ge (tgt := 93) hx hb d_M_isWay_80 rfl (fun h80 => ?_) (fun h80 => ?_)
                      ·
                        refine lv_iconst (v := 0) hx hb d_M_isWay_93 rfl ?_
                        exact W.zret (v := b2i false) hx hb hrt (b2i_nar _) (fun t ht hW => ⟨_, rfl, by rw [f_M_isWay, if_pos h2, if_neg h17, if_neg (nt_of h27), if_pos h36, if_pos h48, if_neg h53, if_neg h59, if_pos h64, if_neg h70, if_neg h75, if_pos h80], ht⟩) (fun q h => by cases h) d_M_isWay_94
                      ·
                        refine lv_iload hx hb d_M_isWay_83 (lv_at hl 4 rfl) ?_
                        refine lv_iconst (v := 4) hx hb d_M_isWay_85 rfl ?_
                        refine lv_icmp_ne (tgt := 93) hx hb d_M_isWay_86 rfl (fun h86 => ?_) (fun h86 => ?_)
                        ·
                          refine lv_iconst (v := 0) hx hb d_M_isWay_93 rfl ?_
                          exact W.zret (v := b2i false) hx hb hrt (b2i_nar _) (fun t ht hW => ⟨_, rfl, by rw [f_M_isWay, if_pos h2, if_neg h17, if_neg (nt_of h27), if_pos h36, if_pos h48, if_neg h53, if_neg h59, if_pos h64, if_neg h70, if_neg h75, if_neg h80, if_neg h86], ht⟩) (fun q h => by cases h) d_M_isWay_94
                        ·
                          refine lv_iconst (v := 1) hx hb d_M_isWay_89 rfl ?_
                          refine lv_goto (tgt := 94) hx hb d_M_isWay_90 rfl ?_
                          exact W.zret (v := b2i true) hx hb hrt (b2i_nar _) (fun t ht hW => ⟨_, rfl, by rw [f_M_isWay, if_pos h2, if_neg h17, if_neg (nt_of h27), if_pos h36, if_pos h48, if_neg h53, if_neg h59, if_pos h64, if_neg h70, if_neg h75, if_neg h80, if_pos h86], ht⟩) (fun q h => by cases h) d_M_isWay_94
        ·
          have h36 := b2i_f h36
          refine lv_iconst (v := 0) hx hb d_M_isWay_39 rfl ?_
          exact W.zret (v := b2i false) hx hb hrt (b2i_nar _) (fun t ht hW => ⟨_, rfl, by rw [f_M_isWay, if_pos h2, if_neg h17, if_neg (nt_of h27), if_neg (nt_of h36)], ht⟩) (fun q h => by cases h) d_M_isWay_40
  ·
    refine lv_aload_n hx hb d_M_isWay_5 rfl (lv_at hl 0 rfl) ?_
    refine va_get (D := X.1) (ci := 6) (C := R_Model) (T := F_Model) (N := 24) hx hb hts hin_Model hown hK.1 hP 0 rw_0 rfl 14 (by decide) (hts _ (wd_2 168 rfl rfl)) (fun _ h9 => h9) rfl d_M_isWay_6 ?_
    refine lv_iload_n hx hb d_M_isWay_9 rfl (lv_at hl 3 rfl) ?_
    refine va_zald hx hb hK.1 hP 14 2 rw_14 rfl (vp_in_nI (lt4 hu h2) (by omega)) d_M_isWay_10 ?_
    rw [nI_clamp (n := u) (by omega)]
    refine lv_if_ne (tgt := 39) hx hb d_M_isWay_11 rfl (fun h11 => ?_) (fun h11 => ?_)
    ·
      have h11 := b2i_t h11
      refine lv_iconst (v := 0) hx hb d_M_isWay_39 rfl ?_
      exact W.zret (v := b2i false) hx hb hrt (b2i_nar _) (fun t ht hW => ⟨_, rfl, by rw [f_M_isWay, if_neg h2, if_pos h11], ht⟩) (fun q h => by cases h) d_M_isWay_40
    ·
      have h11 := b2i_f h11
      refine lv_iload hx hb d_M_isWay_14 (lv_at hl 4 rfl) ?_
      refine lv_iconst (v := 4) hx hb d_M_isWay_16 rfl ?_
      refine lv_icmp_ge (tgt := 30) hx hb d_M_isWay_17 rfl (fun h17 => ?_) (fun h17 => ?_)
      ·
        refine lv_iload_n hx hb d_M_isWay_30 rfl (lv_at hl 3 rfl) ?_
        refine lv_iload hx hb d_M_isWay_31 (lv_at hl 4 rfl) ?_
        refine vp_callSi (W.runS (As := [.int (nI u), .int (nI v)]) (rest := []) ⟨hx, hb, hml, hown, hts⟩ (c_M_areNear l X (nI u) (nI v)) (va_cwS 2 hts (gT (wd_3 41 rfl rfl) (wd_3 42 rfl rfl) (wd_1 6 rfl rfl) (wd_3 43 rfl rfl)) rfl rfl rfl hd_M_areNear ⟨Nat.le_of_ble_eq_true rfl, Nat.le_of_ble_eq_true rfl⟩) (vx_preS (P := fun _ => True) trivial hK) rfl rfl hl.1 rfl (lv_room (Nat.le_of_ble_eq_true rfl)) d_M_isWay_33 ⟨Nat.zero_le _, Nat.zero_le _⟩) (fun r33 e33 => ?_)
        subst e33
        refine lv_if_ne (tgt := 41) hx hb d_M_isWay_36 rfl (fun h36 => ?_) (fun h36 => ?_)
        ·
          have h36 := b2i_t h36
          refine lv_iload_n hx hb d_M_isWay_41 rfl (lv_at hl 2 rfl) ?_
          refine lv_aload_n hx hb d_M_isWay_42 rfl (lv_at hl 0 rfl) ?_
          refine va_get (D := X.1) (ci := 6) (C := R_Model) (T := F_Model) (N := 24) hx hb hts hin_Model hown hK.1 hP 0 rw_0 rfl 0 (by decide) (hts _ (wd_2 154 rfl rfl)) (fun _ h9 => h9) rfl d_M_isWay_43 ?_
          refine lv_iload_n hx hb d_M_isWay_46 rfl (lv_at hl 1 rfl) ?_
          refine va_iald hx hb hK.1 hP 1 0 rw_1 rfl (vp_in_nI (n := r) (by omega) (by omega)) d_M_isWay_47 ?_
          rw [nI_clamp (n := r) (by omega)]
          refine lv_icmp_ne (tgt := 95) hx hb d_M_isWay_48 rfl (fun h48 => ?_) (fun h48 => ?_)
          ·
            refine lv_aload_n hx hb d_M_isWay_95 rfl (lv_at hl 0 rfl) ?_
            refine va_get (D := X.1) (ci := 6) (C := R_Model) (T := F_Model) (N := 24) hx hb hts hin_Model hown hK.1 hP 0 rw_0 rfl 1 (by decide) (hts _ (wd_2 155 rfl rfl)) (fun _ h9 => h9) rfl d_M_isWay_96 ?_
            refine lv_iconst (v := 3) hx hb d_M_isWay_99 rfl ?_
            refine lv_iload_n hx hb d_M_isWay_100 rfl (lv_at hl 1 rfl) ?_
            refine lv_imul hx hb d_M_isWay_101 ?_
            refine lv_iload_n hx hb d_M_isWay_102 rfl (lv_at hl 2 rfl) ?_
            refine lv_iadd hx hb d_M_isWay_103 ?_
            have hg3 : g < 3 := by
              have : g ≠ sA_len A r := fun z => h48 (by rw [z])
              omega
            rw [idx3]
            refine va_iald hx hb hK.1 hP 2 0 rw_2 rfl (vp_in_nI (n := 3 * r + g) (by omega) (by omega)) d_M_isWay_104 ?_
            rw [nI_clamp (n := 3 * r + g) (by omega)]
            rw [show (3 * r + g) / 3 = r by omega, show (3 * r + g) % 3 = g by omega]
            refine lv_istore (lv' := [(5, .int (nI (sA_mk A r g))), (0, .ref (rA_ad G 0)), (1, .int (nI r)), (2, .int (nI g)), (3, .int (nI u)), (4, .int (nI v))]) hx hb d_M_isWay_105 hl (by decide) rfl (fun ls hl => ?_)
            refine lv_iload hx hb d_M_isWay_107 (lv_at hl 5 rfl) ?_
            refine lv_iconst (v := 4) hx hb d_M_isWay_109 rfl ?_
            refine lv_icmp_ge (tgt := 130) hx hb d_M_isWay_110 rfl (fun h110 => ?_) (fun h110 => ?_)
            ·
              refine lv_iload_n hx hb d_M_isWay_130 rfl (lv_at hl 4 rfl) ?_
              refine lv_iconst (v := 2) hx hb d_M_isWay_131 rfl ?_
              refine lv_icmp_lt (tgt := 140) hx hb d_M_isWay_132 rfl (fun h132 => ?_) (fun h132 => ?_)
              ·
                refine lv_bipush (v := 12) hx hb d_M_isWay_140 rfl ?_
                refine lv_goto (tgt := 146) hx hb d_M_isWay_142 rfl ?_
                refine lv_istore (lv' := [(6, .int 12), (5, .int (nI (sA_mk A r g))), (0, .ref (rA_ad G 0)), (1, .int (nI r)), (2, .int (nI g)), (3, .int (nI u)), (4, .int (nI v))]) hx hb d_M_isWay_146 hl (by decide) rfl (fun ls hl => ?_)
                refine lv_iload hx hb d_M_isWay_148 (lv_at hl 6 rfl) ?_
                refine lv_iconst (v := 4) hx hb d_M_isWay_150 rfl ?_
                refine lv_icmp_ne (tgt := 171) hx hb d_M_isWay_151 rfl (fun h151 => ?_) (fun h151 => ?_)
                ·
                  refine lv_iconst (v := 0) hx hb d_M_isWay_171 rfl ?_
                  exact W.zret (v := b2i false) hx hb hrt (b2i_nar _) (fun t ht hW => ⟨_, rfl, by rw [f_M_isWay, if_neg h2, if_neg (nt_of h11), if_pos h17, if_pos h36, if_neg h48, if_pos h110, if_pos h132, if_neg h151], ht⟩) (fun q h => by cases h) d_M_isWay_172
                ·
                  refine lv_iload_n hx hb d_M_isWay_154 rfl (lv_at hl 5 rfl) ?_
                  refine lv_iconst (v := 4) hx hb d_M_isWay_155 rfl ?_
                  refine lv_icmp_eq (tgt := 171) hx hb d_M_isWay_156 rfl (fun h156 => ?_) (fun h156 => ?_)
                  ·
                    refine lv_iconst (v := 0) hx hb d_M_isWay_171 rfl ?_
                    exact W.zret (v := b2i false) hx hb hrt (b2i_nar _) (fun t ht hW => ⟨_, rfl, by rw [f_M_isWay, if_neg h2, if_neg (nt_of h11), if_pos h17, if_pos h36, if_neg h48, if_pos h110, if_pos h132, if_pos h151, if_pos h156], ht⟩) (fun q h => by cases h) d_M_isWay_172
                  ·
                    refine lv_iload hx hb d_M_isWay_159 (lv_at hl 1 rfl) ?_
                    refine lv_iload hx hb d_M_isWay_161 (lv_at hl 0 rfl) ?_
                    refine lv_iand hx hb d_M_isWay_163 ?_
                    refine lv_if_eq (tgt := 171) hx hb d_M_isWay_164 rfl (fun h164 => ?_) (fun h164 => ?_)
                    ·
                      refine lv_iconst (v := 0) hx hb d_M_isWay_171 rfl ?_
                      exact W.zret (v := b2i false) hx hb hrt (b2i_nar _) (fun t ht hW => ⟨_, rfl, by rw [f_M_isWay, if_neg h2, if_neg (nt_of h11), if_pos h17, if_pos h36, if_neg h48, if_pos h110, if_pos h132, if_pos h151, if_neg h156, if_pos h164], ht⟩) (fun q h => by cases h) d_M_isWay_172
                    ·
                      refine lv_iconst (v := 1) hx hb d_M_isWay_167 rfl ?_
                      refine lv_goto (tgt := 172) hx hb d_M_isWay_168 rfl ?_
                      exact W.zret (v := b2i true) hx hb hrt (b2i_nar _) (fun t ht hW => ⟨_, rfl, by rw [f_M_isWay, if_neg h2, if_neg (nt_of h11), if_pos h17, if_pos h36, if_neg h48, if_pos h110, if_pos h132, if_pos h151, if_neg h156, if_neg h164], ht⟩) (fun q h => by cases h) d_M_isWay_172
              ·
                refine lv_iload_n hx hb d_M_isWay_135 rfl (lv_at hl 4 rfl) ?_
                refine lv_iconst (v := 5) hx hb d_M_isWay_136 rfl ?_
                refine lv_icmp_ne (tgt := 145) hx hb d_M_isWay_137 rfl (fun h137 => ?_) (fun h137 => ?_)
                ·
                  refine lv_iconst (v := 3) hx hb d_M_isWay_145 rfl ?_
                  refine lv_istore (lv' := [(6, .int 3), (5, .int (nI (sA_mk A r g))), (0, .ref (rA_ad G 0)), (1, .int (nI r)), (2, .int (nI g)), (3, .int (nI u)), (4, .int (nI v))]) hx hb d_M_isWay_146 hl (by decide) rfl (fun ls hl => ?_)
                  refine lv_iload hx hb d_M_isWay_148 (lv_at hl 6 rfl) ?_
                  refine lv_iconst (v := 4) hx hb d_M_isWay_150 rfl ?_
                  refine lv_icmp_ne (tgt := 171) hx hb d_M_isWay_151 rfl (fun h151 => ?_) (fun h151 => ?_)
                  ·
                    refine lv_iconst (v := 0) hx hb d_M_isWay_171 rfl ?_
                    exact W.zret (v := b2i false) hx hb hrt (b2i_nar _) (fun t ht hW => ⟨_, rfl, by rw [f_M_isWay, if_neg h2, if_neg (nt_of h11), if_pos h17, if_pos h36, if_neg h48, if_pos h110, if_neg h132, if_neg h137, if_neg h151], ht⟩) (fun q h => by cases h) d_M_isWay_172
                  ·
                    refine lv_iload_n hx hb d_M_isWay_154 rfl (lv_at hl 5 rfl) ?_
                    refine lv_iconst (v := 4) hx hb d_M_isWay_155 rfl ?_
                    refine lv_icmp_eq (tgt := 171) hx hb d_M_isWay_156 rfl (fun h156 => ?_) (fun h156 => ?_)
                    ·
                      refine lv_iconst (v := 0) hx hb d_M_isWay_171 rfl ?_
                      exact W.zret (v := b2i false) hx hb hrt (b2i_nar _) (fun t ht hW => ⟨_, rfl, by rw [f_M_isWay, if_neg h2, if_neg (nt_of h11), if_pos h17, if_pos h36, if_neg h48, if_pos h110, if_neg h132, if_neg h137, if_pos h151, if_pos h156], ht⟩) (fun q h => by cases h) d_M_isWay_172
                    ·
                      refine lv_iload hx hb d_M_isWay_159 (lv_at hl 1 rfl) ?_
                      refine lv_iload hx hb d_M_isWay_161 (lv_at hl 0 rfl) ?_
                      refine lv_iand hx hb d_M_isWay_163 ?_
                      refine lv_if_eq (tgt := 171) hx hb d_M_isWay_164 rfl (fun h164 => ?_) (fun h164 => ?_)
                      ·
                        refine lv_iconst (v := 0) hx hb d_M_isWay_171 rfl ?_
                        exact W.zret (v := b2i false) hx hb hrt (b2i_nar _) (fun t ht hW => ⟨_, rfl, by rw [f_M_isWay, if_neg h2, if_neg (nt_of h11), if_pos h17, if_pos h36, if_neg h48, if_pos h110, if_neg h132, if_neg h137, if_pos h151, if_neg h156, if_pos h164], ht⟩) (fun q h => by cases h) d_M_isWay_172
                      ·
                        refine lv_iconst (v := 1) hx hb d_M_isWay_167 rfl ?_
                        refine lv_goto (tgt := 172) hx hb d_M_isWay_168 rfl ?_
                        exact W.zret (v := b2i true) hx hb hrt (b2i_nar _) (fun t ht hW => ⟨_, rfl, by rw [f_M_isWay, if_neg h2, if_neg (nt_of h11), if_pos h17, if_pos h36, if_neg h48, if_pos h110, if_neg h132, if_neg h137, if_pos h151, if_neg h156, if_neg h164], ht⟩) (fun q h => by cases h) d_M_isWay_172
                ·
                  refine lv_bipush (v := 12) hx hb d_M_isWay_140 rfl ?_
                  refine lv_goto (tgt := 146) hx hb d_M_isWay_142 rfl ?_
                  refine lv_istore (lv' := [(6, .int 12), (5, .int (nI (sA_mk A r g))), (0, .ref (rA_ad G 0)), (1, .int (nI r)), (2, .int (nI g)), (3, .int (nI u)), (4, .int (nI v))]) hx hb d_M_isWay_146 hl (by decide) rfl (fun ls hl => ?_)
                  refine lv_iload hx hb d_M_isWay_148 (lv_at hl 6 rfl) ?_
                  refine lv_iconst (v := 4) hx hb d_M_isWay_150 rfl ?_
                  refine lv_icmp_ne (tgt := 171) hx hb d_M_isWay_151 rfl (fun h151 => ?_) (fun h151 => ?_)
                  ·
                    refine lv_iconst (v := 0) hx hb d_M_isWay_171 rfl ?_
                    exact W.zret (v := b2i false) hx hb hrt (b2i_nar _) (fun t ht hW => ⟨_, rfl, by rw [f_M_isWay, if_neg h2, if_neg (nt_of h11), if_pos h17, if_pos h36, if_neg h48, if_pos h110, if_neg h132, if_pos h137, if_neg h151], ht⟩) (fun q h => by cases h) d_M_isWay_172
                  ·
                    refine lv_iload_n hx hb d_M_isWay_154 rfl (lv_at hl 5 rfl) ?_
                    refine lv_iconst (v := 4) hx hb d_M_isWay_155 rfl ?_
                    refine lv_icmp_eq (tgt := 171) hx hb d_M_isWay_156 rfl (fun h156 => ?_) (fun h156 => ?_)
                    ·
                      refine lv_iconst (v := 0) hx hb d_M_isWay_171 rfl ?_
                      exact W.zret (v := b2i false) hx hb hrt (b2i_nar _) (fun t ht hW => ⟨_, rfl, by rw [f_M_isWay, if_neg h2, if_neg (nt_of h11), if_pos h17, if_pos h36, if_neg h48, if_pos h110, if_neg h132, if_pos h137, if_pos h151, if_pos h156], ht⟩) (fun q h => by cases h) d_M_isWay_172
                    ·
                      refine lv_iload hx hb d_M_isWay_159 (lv_at hl 1 rfl) ?_
                      refine lv_iload hx hb d_M_isWay_161 (lv_at hl 0 rfl) ?_
                      refine lv_iand hx hb d_M_isWay_163 ?_
                      refine lv_if_eq (tgt := 171) hx hb d_M_isWay_164 rfl (fun h164 => ?_) (fun h164 => ?_)
                      ·
                        refine lv_iconst (v := 0) hx hb d_M_isWay_171 rfl ?_
                        exact W.zret (v := b2i false) hx hb hrt (b2i_nar _) (fun t ht hW => ⟨_, rfl, by rw [f_M_isWay, if_neg h2, if_neg (nt_of h11), if_pos h17, if_pos h36, if_neg h48, if_pos h110, if_neg h132, if_pos h137, if_pos h151, if_neg h156, if_pos h164], ht⟩) (fun q h => by cases h) d_M_isWay_172
                      ·
                        refine lv_iconst (v := 1) hx hb d_M_isWay_167 rfl ?_
                        refine lv_goto (tgt := 172) hx hb d_M_isWay_168 rfl ?_
                        exact W.zret (v := b2i true) hx hb hrt (b2i_nar _) (fun t ht hW => ⟨_, rfl, by rw [f_M_isWay, if_neg h2, if_neg (nt_of h11), if_pos h17, if_pos h36, if_neg h48, if_pos h110, if_neg h132, if_pos h137, if_pos h151, if_neg h156, if_neg h164], ht⟩) (fun q h => by cases h) d_M_isWay_172
            ·
              refine lv_iload hx hb d_M_isWay_113 (lv_at hl 0 rfl) ?_
              refine lv_iload hx hb d_M_isWay_115 (lv_at hl 5 rfl) ?_
              refine lv_ishr hx hb d_M_isWay_117 ?_
              refine lv_iconst (v := 1) hx hb d_M_isWay_118 rfl ?_
              refine lv_iand hx hb d_M_isWay_119 ?_
              refine lv_iconst (v := 1) hx hb d_M_isWay_120 rfl ?_
              refine lv_icmp_ne (tgt := 128) hx hb d_M_isWay_121 rfl (fun h121 => ?_) (fun h121 => ?_)
              ·
                refine lv_iconst (v := 0) hx hb d_M_isWay_128 rfl ?_
                exact W.zret (v := b2i false) hx hb hrt (b2i_nar _) (fun t ht hW => ⟨_, rfl, by rw [f_M_isWay, if_neg h2, if_neg (nt_of h11), if_pos h17, if_pos h36, if_neg h48, if_neg h110, if_neg h121], ht⟩) (fun q h => by cases h) d_M_isWay_129
              ·
                refine lv_iconst (v := 1) hx hb d_M_isWay_124 rfl ?_
                refine lv_goto (tgt := 129) hx hb d_M_isWay_125 rfl ?_
                exact W.zret (v := b2i true) hx hb hrt (b2i_nar _) (fun t ht hW => ⟨_, rfl, by rw [f_M_isWay, if_neg h2, if_neg (nt_of h11), if_pos h17, if_pos h36, if_neg h48, if_neg h110, if_pos h121], ht⟩) (fun q h => by cases h) d_M_isWay_129
          ·
            refine lv_iload_n hx hb d_M_isWay_51 rfl (lv_at hl 3 rfl) ?_
            refine lv_iconst (v := 2) hx hb d_M_isWay_52 rfl ?_
            refine lv_icmp_ge (tgt := 62) hx hb d_M_isWay_53 rfl (fun h53 => ?_) (fun h53 => ?_)
            ·
              refine lv_iload_n hx hb d_M_isWay_62 rfl (lv_at hl 3 rfl) ?_
              refine lv_iconst (v := 4) hx hb d_M_isWay_63 rfl ?_
              refine lv_icmp_ne (tgt := 73) hx hb d_M_isWay_64 rfl (fun h64 => ?_) (fun h64 => ?_)
              ·
                refine lv_iload_n hx hb d_M_isWay_73 rfl (lv_at hl 3 rfl) ?_
                refine lv_iconst (v := 1) hx hb d_M_isWay_74 rfl ?_
                refine lv_icmp_le (tgt := 93) hx hb d_M_isWay_75 rfl (fun h75 => ?_) (fun h75 => ?_)
                ·
                  refine lv_iconst (v := 0) hx hb d_M_isWay_93 rfl ?_
                  exact W.zret (v := b2i false) hx hb hrt (b2i_nar _) (fun t ht hW => ⟨_, rfl, by rw [f_M_isWay, if_neg h2, if_neg (nt_of h11), if_pos h17, if_pos h36, if_pos h48, if_pos h53, if_neg h64, if_pos h75], ht⟩) (fun q h => by cases h) d_M_isWay_94
                ·
                  refine lv_iload_n hx hb d_M_isWay_78 rfl (lv_at hl 3 rfl) ?_
                  refine lv_iconst (v := 4) hx hb d_M_isWay_79 rfl ?_
                  refine lv_icmp_ge (tgt := 93) hx hb d_M_isWay_80 rfl (fun h80 => ?_) (fun h80 => ?_)
                  ·
                    refine lv_iconst (v := 0) hx hb d_M_isWay_93 rfl ?_
                    exact W.zret (v := b2i false) hx hb hrt (b2i_nar _) (fun t ht hW => ⟨_, rfl, by rw [f_M_isWay, if_neg h2, if_neg (nt_of h11), if_pos h17, if_pos h36, if_pos h48, if_pos h53, if_neg h64, if_neg h75, if_pos h80], ht⟩) (fun q h => by cases h) d_M_isWay_94
                  ·
                    refine lv_iload hx hb d_M_isWay_83 (lv_at hl 4 rfl) ?_
                    refine lv_iconst (v := 4) hx hb d_M_isWay_85 rfl ?_
                    refine lv_icmp_ne (tgt := 93) hx hb d_M_isWay_86 rfl (fun h86 => ?_) (fun h86 => ?_)
                    ·
                      refine lv_iconst (v := 0) hx hb d_M_isWay_93 rfl ?_
                      exact W.zret (v := b2i false) hx hb hrt (b2i_nar _) (fun t ht hW => ⟨_, rfl, by rw [f_M_isWay, if_neg h2, if_neg (nt_of h11), if_pos h17, if_pos h36, if_pos h48, if_pos h53, if_neg h64, if_neg h75, if_neg h80, if_neg h86], ht⟩) (fun q h => by cases h) d_M_isWay_94
                    ·
                      refine lv_iconst (v := 1) hx hb d_M_isWay_89 rfl ?_
                      refine lv_goto (tgt := 94) hx hb d_M_isWay_90 rfl ?_
                      exact W.zret (v := b2i true) hx hb hrt (b2i_nar _) (fun t ht hW => ⟨_, rfl, by rw [f_M_isWay, if_neg h2, if_neg (nt_of h11), if_pos h17, if_pos h36, if_pos h48, if_pos h53, if_neg h64, if_neg h75, if_neg h80, if_pos h86], ht⟩) (fun q h => by cases h) d_M_isWay_94
              ·
                refine lv_iload hx hb d_M_isWay_67 (lv_at hl 4 rfl) ?_
                refine lv_iconst (v := 5) hx hb d_M_isWay_69 rfl ?_
                refine lv_icmp_eq (tgt := 89) hx hb d_M_isWay_70 rfl (fun h70 => ?_) (fun h70 => ?_)
                ·
                  refine lv_iconst (v := 1) hx hb d_M_isWay_89 rfl ?_
                  refine lv_goto (tgt := 94) hx hb d_M_isWay_90 rfl ?_
                  exact W.zret (v := b2i true) hx hb hrt (b2i_nar _) (fun t ht hW => ⟨_, rfl, by rw [f_M_isWay, if_neg h2, if_neg (nt_of h11), if_pos h17, if_pos h36, if_pos h48, if_pos h53, if_pos h64, if_pos h70], ht⟩) (fun q h => by cases h) d_M_isWay_94
                ·
                  refine lv_iload_n hx hb d_M_isWay_73 rfl (lv_at hl 3 rfl) ?_
                  refine lv_iconst (v := 1) hx hb d_M_isWay_74 rfl ?_
                  refine lv_icmp_le (tgt := 93) hx hb d_M_isWay_75 rfl (fun h75 => ?_) (fun h75 => ?_)
                  ·
                    refine lv_iconst (v := 0) hx hb d_M_isWay_93 rfl ?_
                    exact W.zret (v := b2i false) hx hb hrt (b2i_nar _) (fun t ht hW => ⟨_, rfl, by rw [f_M_isWay, if_neg h2, if_neg (nt_of h11), if_pos h17, if_pos h36, if_pos h48, if_pos h53, if_pos h64, if_neg h70, if_pos h75], ht⟩) (fun q h => by cases h) d_M_isWay_94
                  ·
                    refine lv_iload_n hx hb d_M_isWay_78 rfl (lv_at hl 3 rfl) ?_
                    refine lv_iconst (v := 4) hx hb d_M_isWay_79 rfl ?_
                    refine lv_icmp_ge (tgt := 93) hx hb d_M_isWay_80 rfl (fun h80 => ?_) (fun h80 => ?_)
                    ·
                      refine lv_iconst (v := 0) hx hb d_M_isWay_93 rfl ?_
                      exact W.zret (v := b2i false) hx hb hrt (b2i_nar _) (fun t ht hW => ⟨_, rfl, by rw [f_M_isWay, if_neg h2, if_neg (nt_of h11), if_pos h17, if_pos h36, if_pos h48, if_pos h53, if_pos h64, if_neg h70, if_neg h75, if_pos h80], ht⟩) (fun q h => by cases h) d_M_isWay_94
                    ·
                      refine lv_iload hx hb d_M_isWay_83 (lv_at hl 4 rfl) ?_
                      refine lv_iconst (v := 4) hx hb d_M_isWay_85 rfl ?_
                      refine lv_icmp_ne (tgt := 93) hx hb d_M_isWay_86 rfl (fun h86 => ?_) (fun h86 => ?_)
                      ·
                        refine lv_iconst (v := 0) hx hb d_M_isWay_93 rfl ?_
                        exact W.zret (v := b2i false) hx hb hrt (b2i_nar _) (fun t ht hW => ⟨_, rfl, by rw [f_M_isWay, if_neg h2, if_neg (nt_of h11), if_pos h17, if_pos h36, if_pos h48, if_pos h53, if_pos h64, if_neg h70, if_neg h75, if_neg h80, if_neg h86], ht⟩) (fun q h => by cases h) d_M_isWay_94
                      ·
                        refine lv_iconst (v := 1) hx hb d_M_isWay_89 rfl ?_
                        refine lv_goto (tgt := 94) hx hb d_M_isWay_90 rfl ?_
                        exact W.zret (v := b2i true) hx hb hrt (b2i_nar _) (fun t ht hW => ⟨_, rfl, by rw [f_M_isWay, if_neg h2, if_neg (nt_of h11), if_pos h17, if_pos h36, if_pos h48, if_pos h53, if_pos h64, if_neg h70, if_neg h75, if_neg h80, if_pos h86], ht⟩) (fun q h => by cases h) d_M_isWay_94
            ·
              refine lv_iload hx hb d_M_isWay_56 (lv_at hl 4 rfl) ?_
              refine lv_iconst (v := 5) hx hb d_M_isWay_58 rfl ?_
              refine lv_icmp_eq (tgt := 89) hx hb d_M_isWay_59 rfl (fun h59 => ?_) (fun h59 => ?_)
              ·
                refine lv_iconst (v := 1) hx hb d_M_isWay_89 rfl ?_
                refine lv_goto (tgt := 94) hx hb d_M_isWay_90 rfl ?_
                exact W.zret (v := b2i true) hx hb hrt (b2i_nar _) (fun t ht hW => ⟨_, rfl, by rw [f_M_isWay, if_neg h2, if_neg (nt_of h11), if_pos h17, if_pos h36, if_pos h48, if_neg h53, if_pos h59], ht⟩) (fun q h => by cases h) d_M_isWay_94
              ·
                refine lv_iload_n hx hb d_M_isWay_62 rfl (lv_at hl 3 rfl) ?_
                refine lv_iconst (v := 4) hx hb d_M_isWay_63 rfl ?_
                refine lv_icmp_ne (tgt := 73) hx hb d_M_isWay_64 rfl (fun h64 => ?_) (fun h64 => ?_)
                ·
                  refine lv_iload_n hx hb d_M_isWay_73 rfl (lv_at hl 3 rfl) ?_
                  refine lv_iconst (v := 1) hx hb d_M_isWay_74 rfl ?_
                  refine lv_icmp_le (tgt := 93) hx hb d_M_isWay_75 rfl (fun h75 => ?_) (fun h75 => ?_)
                  ·
                    refine lv_iconst (v := 0) hx hb d_M_isWay_93 rfl ?_
                    exact W.zret (v := b2i false) hx hb hrt (b2i_nar _) (fun t ht hW => ⟨_, rfl, by rw [f_M_isWay, if_neg h2, if_neg (nt_of h11), if_pos h17, if_pos h36, if_pos h48, if_neg h53, if_neg h59, if_neg h64, if_pos h75], ht⟩) (fun q h => by cases h) d_M_isWay_94
                  ·
                    refine lv_iload_n hx hb d_M_isWay_78 rfl (lv_at hl 3 rfl) ?_
                    refine lv_iconst (v := 4) hx hb d_M_isWay_79 rfl ?_
                    refine lv_icmp_ge (tgt := 93) hx hb d_M_isWay_80 rfl (fun h80 => ?_) (fun h80 => ?_)
                    ·
                      refine lv_iconst (v := 0) hx hb d_M_isWay_93 rfl ?_
                      exact W.zret (v := b2i false) hx hb hrt (b2i_nar _) (fun t ht hW => ⟨_, rfl, by rw [f_M_isWay, if_neg h2, if_neg (nt_of h11), if_pos h17, if_pos h36, if_pos h48, if_neg h53, if_neg h59, if_neg h64, if_neg h75, if_pos h80], ht⟩) (fun q h => by cases h) d_M_isWay_94
                    ·
                      refine lv_iload hx hb d_M_isWay_83 (lv_at hl 4 rfl) ?_
                      refine lv_iconst (v := 4) hx hb d_M_isWay_85 rfl ?_
                      refine lv_icmp_ne (tgt := 93) hx hb d_M_isWay_86 rfl (fun h86 => ?_) (fun h86 => ?_)
                      ·
                        refine lv_iconst (v := 0) hx hb d_M_isWay_93 rfl ?_
                        exact W.zret (v := b2i false) hx hb hrt (b2i_nar _) (fun t ht hW => ⟨_, rfl, by rw [f_M_isWay, if_neg h2, if_neg (nt_of h11), if_pos h17, if_pos h36, if_pos h48, if_neg h53, if_neg h59, if_neg h64, if_neg h75, if_neg h80, if_neg h86], ht⟩) (fun q h => by cases h) d_M_isWay_94
                      ·
                        refine lv_iconst (v := 1) hx hb d_M_isWay_89 rfl ?_
                        refine lv_goto (tgt := 94) hx hb d_M_isWay_90 rfl ?_
                        exact W.zret (v := b2i true) hx hb hrt (b2i_nar _) (fun t ht hW => ⟨_, rfl, by rw [f_M_isWay, if_neg h2, if_neg (nt_of h11), if_pos h17, if_pos h36, if_pos h48, if_neg h53, if_neg h59, if_neg h64, if_neg h75, if_neg h80, if_pos h86], ht⟩) (fun q h => by cases h) d_M_isWay_94
                ·
                  refine lv_iload hx hb d_M_isWay_67 (lv_at hl 4 rfl) ?_
                  refine lv_iconst (v := 5) hx hb d_M_isWay_69 rfl ?_
                  refine lv_icmp_eq (tgt := 89) hx hb d_M_isWay_70 rfl (fun h70 => ?_) (fun h70 => ?_)
                  ·
                    refine lv_iconst (v := 1) hx hb d_M_isWay_89 rfl ?_
                    refine lv_goto (tgt := 94) hx hb d_M_isWay_90 rfl ?_
                    exact W.zret (v := b2i true) hx hb hrt (b2i_nar _) (fun t ht hW => ⟨_, rfl, by rw [f_M_isWay, if_neg h2, if_neg (nt_of h11), if_pos h17, if_pos h36, if_pos h48, if_neg h53, if_neg h59, if_pos h64, if_pos h70], ht⟩) (fun q h => by cases h) d_M_isWay_94
                  ·
                    refine lv_iload_n hx hb d_M_isWay_73 rfl (lv_at hl 3 rfl) ?_
                    refine lv_iconst (v := 1) hx hb d_M_isWay_74 rfl ?_
                    refine lv_icmp_le (tgt := 93) hx hb d_M_isWay_75 rfl (fun h75 => ?_) (fun h75 => ?_)
                    ·
                      refine lv_iconst (v := 0) hx hb d_M_isWay_93 rfl ?_
                      exact W.zret (v := b2i false) hx hb hrt (b2i_nar _) (fun t ht hW => ⟨_, rfl, by rw [f_M_isWay, if_neg h2, if_neg (nt_of h11), if_pos h17, if_pos h36, if_pos h48, if_neg h53, if_neg h59, if_pos h64, if_neg h70, if_pos h75], ht⟩) (fun q h => by cases h) d_M_isWay_94
                    ·
                      refine lv_iload_n hx hb d_M_isWay_78 rfl (lv_at hl 3 rfl) ?_
                      refine lv_iconst (v := 4) hx hb d_M_isWay_79 rfl ?_
                      refine lv_icmp_ge (tgt := 93) hx hb d_M_isWay_80 rfl (fun h80 => ?_) (fun h80 => ?_)
                      ·
                        refine lv_iconst (v := 0) hx hb d_M_isWay_93 rfl ?_
                        exact W.zret (v := b2i false) hx hb hrt (b2i_nar _) (fun t ht hW => ⟨_, rfl, by rw [f_M_isWay, if_neg h2, if_neg (nt_of h11), if_pos h17, if_pos h36, if_pos h48, if_neg h53, if_neg h59, if_pos h64, if_neg h70, if_neg h75, if_pos h80], ht⟩) (fun q h => by cases h) d_M_isWay_94
                      ·
                        refine lv_iload hx hb d_M_isWay_83 (lv_at hl 4 rfl) ?_
                        refine lv_iconst (v := 4) hx hb d_M_isWay_85 rfl ?_
                        refine lv_icmp_ne (tgt := 93) hx hb d_M_isWay_86 rfl (fun h86 => ?_) (fun h86 => ?_)
                        ·
                          refine lv_iconst (v := 0) hx hb d_M_isWay_93 rfl ?_
                          exact W.zret (v := b2i false) hx hb hrt (b2i_nar _) (fun t ht hW => ⟨_, rfl, by rw [f_M_isWay, if_neg h2, if_neg (nt_of h11), if_pos h17, if_pos h36, if_pos h48, if_neg h53, if_neg h59, if_pos h64, if_neg h70, if_neg h75, if_neg h80, if_neg h86], ht⟩) (fun q h => by cases h) d_M_isWay_94
                        ·
                          refine lv_iconst (v := 1) hx hb d_M_isWay_89 rfl ?_
                          refine lv_goto (tgt := 94) hx hb d_M_isWay_90 rfl ?_
                          exact W.zret (v := b2i true) hx hb hrt (b2i_nar _) (fun t ht hW => ⟨_, rfl, by rw [f_M_isWay, if_neg h2, if_neg (nt_of h11), if_pos h17, if_pos h36, if_pos h48, if_neg h53, if_neg h59, if_pos h64, if_neg h70, if_neg h75, if_neg h80, if_pos h86], ht⟩) (fun q h => by cases h) d_M_isWay_94
        ·
          have h36 := b2i_f h36
          refine lv_iconst (v := 0) hx hb d_M_isWay_39 rfl ?_
          exact W.zret (v := b2i false) hx hb hrt (b2i_nar _) (fun t ht hW => ⟨_, rfl, by rw [f_M_isWay, if_neg h2, if_neg (nt_of h11), if_pos h17, if_neg (nt_of h36)], ht⟩) (fun q h => by cases h) d_M_isWay_40
      ·
        refine lv_aload_n hx hb d_M_isWay_20 rfl (lv_at hl 0 rfl) ?_
        refine va_get (D := X.1) (ci := 6) (C := R_Model) (T := F_Model) (N := 24) hx hb hts hin_Model hown hK.1 hP 0 rw_0 rfl 14 (by decide) (hts _ (wd_2 168 rfl rfl)) (fun _ h9 => h9) rfl d_M_isWay_21 ?_
        refine lv_iload hx hb d_M_isWay_24 (lv_at hl 4 rfl) ?_
        refine va_zald hx hb hK.1 hP 14 2 rw_14 rfl (vp_in_nI (lt4 hv h17) (by omega)) d_M_isWay_26 ?_
        rw [nI_clamp (n := v) (by omega)]
        refine lv_if_ne (tgt := 39) hx hb d_M_isWay_27 rfl (fun h27 => ?_) (fun h27 => ?_)
        ·
          have h27 := b2i_t h27
          refine lv_iconst (v := 0) hx hb d_M_isWay_39 rfl ?_
          exact W.zret (v := b2i false) hx hb hrt (b2i_nar _) (fun t ht hW => ⟨_, rfl, by rw [f_M_isWay, if_neg h2, if_neg (nt_of h11), if_neg h17, if_pos h27], ht⟩) (fun q h => by cases h) d_M_isWay_40
        ·
          have h27 := b2i_f h27
          refine lv_iload_n hx hb d_M_isWay_30 rfl (lv_at hl 3 rfl) ?_
          refine lv_iload hx hb d_M_isWay_31 (lv_at hl 4 rfl) ?_
          refine vp_callSi (W.runS (As := [.int (nI u), .int (nI v)]) (rest := []) ⟨hx, hb, hml, hown, hts⟩ (c_M_areNear l X (nI u) (nI v)) (va_cwS 2 hts (gT (wd_3 41 rfl rfl) (wd_3 42 rfl rfl) (wd_1 6 rfl rfl) (wd_3 43 rfl rfl)) rfl rfl rfl hd_M_areNear ⟨Nat.le_of_ble_eq_true rfl, Nat.le_of_ble_eq_true rfl⟩) (vx_preS (P := fun _ => True) trivial hK) rfl rfl hl.1 rfl (lv_room (Nat.le_of_ble_eq_true rfl)) d_M_isWay_33 ⟨Nat.zero_le _, Nat.zero_le _⟩) (fun r33 e33 => ?_)
          subst e33
          refine lv_if_ne (tgt := 41) hx hb d_M_isWay_36 rfl (fun h36 => ?_) (fun h36 => ?_)
          ·
            have h36 := b2i_t h36
            refine lv_iload_n hx hb d_M_isWay_41 rfl (lv_at hl 2 rfl) ?_
            refine lv_aload_n hx hb d_M_isWay_42 rfl (lv_at hl 0 rfl) ?_
            refine va_get (D := X.1) (ci := 6) (C := R_Model) (T := F_Model) (N := 24) hx hb hts hin_Model hown hK.1 hP 0 rw_0 rfl 0 (by decide) (hts _ (wd_2 154 rfl rfl)) (fun _ h9 => h9) rfl d_M_isWay_43 ?_
            refine lv_iload_n hx hb d_M_isWay_46 rfl (lv_at hl 1 rfl) ?_
            refine va_iald hx hb hK.1 hP 1 0 rw_1 rfl (vp_in_nI (n := r) (by omega) (by omega)) d_M_isWay_47 ?_
            rw [nI_clamp (n := r) (by omega)]
            refine lv_icmp_ne (tgt := 95) hx hb d_M_isWay_48 rfl (fun h48 => ?_) (fun h48 => ?_)
            ·
              refine lv_aload_n hx hb d_M_isWay_95 rfl (lv_at hl 0 rfl) ?_
              refine va_get (D := X.1) (ci := 6) (C := R_Model) (T := F_Model) (N := 24) hx hb hts hin_Model hown hK.1 hP 0 rw_0 rfl 1 (by decide) (hts _ (wd_2 155 rfl rfl)) (fun _ h9 => h9) rfl d_M_isWay_96 ?_
              refine lv_iconst (v := 3) hx hb d_M_isWay_99 rfl ?_
              refine lv_iload_n hx hb d_M_isWay_100 rfl (lv_at hl 1 rfl) ?_
              refine lv_imul hx hb d_M_isWay_101 ?_
              refine lv_iload_n hx hb d_M_isWay_102 rfl (lv_at hl 2 rfl) ?_
              refine lv_iadd hx hb d_M_isWay_103 ?_
              have hg3 : g < 3 := by
                have : g ≠ sA_len A r := fun z => h48 (by rw [z])
                omega
              rw [idx3]
              refine va_iald hx hb hK.1 hP 2 0 rw_2 rfl (vp_in_nI (n := 3 * r + g) (by omega) (by omega)) d_M_isWay_104 ?_
              rw [nI_clamp (n := 3 * r + g) (by omega)]
              rw [show (3 * r + g) / 3 = r by omega, show (3 * r + g) % 3 = g by omega]
              refine lv_istore (lv' := [(5, .int (nI (sA_mk A r g))), (0, .ref (rA_ad G 0)), (1, .int (nI r)), (2, .int (nI g)), (3, .int (nI u)), (4, .int (nI v))]) hx hb d_M_isWay_105 hl (by decide) rfl (fun ls hl => ?_)
              refine lv_iload hx hb d_M_isWay_107 (lv_at hl 5 rfl) ?_
              refine lv_iconst (v := 4) hx hb d_M_isWay_109 rfl ?_
              refine lv_icmp_ge (tgt := 130) hx hb d_M_isWay_110 rfl (fun h110 => ?_) (fun h110 => ?_)
              ·
                refine lv_iload_n hx hb d_M_isWay_130 rfl (lv_at hl 4 rfl) ?_
                refine lv_iconst (v := 2) hx hb d_M_isWay_131 rfl ?_
                refine lv_icmp_lt (tgt := 140) hx hb d_M_isWay_132 rfl (fun h132 => ?_) (fun h132 => ?_)
                ·
                  refine lv_bipush (v := 12) hx hb d_M_isWay_140 rfl ?_
                  refine lv_goto (tgt := 146) hx hb d_M_isWay_142 rfl ?_
                  refine lv_istore (lv' := [(6, .int 12), (5, .int (nI (sA_mk A r g))), (0, .ref (rA_ad G 0)), (1, .int (nI r)), (2, .int (nI g)), (3, .int (nI u)), (4, .int (nI v))]) hx hb d_M_isWay_146 hl (by decide) rfl (fun ls hl => ?_)
                  refine lv_iload hx hb d_M_isWay_148 (lv_at hl 6 rfl) ?_
                  refine lv_iconst (v := 4) hx hb d_M_isWay_150 rfl ?_
                  refine lv_icmp_ne (tgt := 171) hx hb d_M_isWay_151 rfl (fun h151 => ?_) (fun h151 => ?_)
                  ·
                    refine lv_iconst (v := 0) hx hb d_M_isWay_171 rfl ?_
                    exact W.zret (v := b2i false) hx hb hrt (b2i_nar _) (fun t ht hW => ⟨_, rfl, by rw [f_M_isWay, if_neg h2, if_neg (nt_of h11), if_neg h17, if_neg (nt_of h27), if_pos h36, if_neg h48, if_pos h110, if_pos h132, if_neg h151], ht⟩) (fun q h => by cases h) d_M_isWay_172
                  ·
                    refine lv_iload_n hx hb d_M_isWay_154 rfl (lv_at hl 5 rfl) ?_
                    refine lv_iconst (v := 4) hx hb d_M_isWay_155 rfl ?_
                    refine lv_icmp_eq (tgt := 171) hx hb d_M_isWay_156 rfl (fun h156 => ?_) (fun h156 => ?_)
                    ·
                      refine lv_iconst (v := 0) hx hb d_M_isWay_171 rfl ?_
                      exact W.zret (v := b2i false) hx hb hrt (b2i_nar _) (fun t ht hW => ⟨_, rfl, by rw [f_M_isWay, if_neg h2, if_neg (nt_of h11), if_neg h17, if_neg (nt_of h27), if_pos h36, if_neg h48, if_pos h110, if_pos h132, if_pos h151, if_pos h156], ht⟩) (fun q h => by cases h) d_M_isWay_172
                    ·
                      refine lv_iload hx hb d_M_isWay_159 (lv_at hl 1 rfl) ?_
                      refine lv_iload hx hb d_M_isWay_161 (lv_at hl 0 rfl) ?_
                      refine lv_iand hx hb d_M_isWay_163 ?_
                      refine lv_if_eq (tgt := 171) hx hb d_M_isWay_164 rfl (fun h164 => ?_) (fun h164 => ?_)
                      ·
                        refine lv_iconst (v := 0) hx hb d_M_isWay_171 rfl ?_
                        exact W.zret (v := b2i false) hx hb hrt (b2i_nar _) (fun t ht hW => ⟨_, rfl, by rw [f_M_isWay, if_neg h2, if_neg (nt_of h11), if_neg h17, if_neg (nt_of h27), if_pos h36, if_neg h48, if_pos h110, if_pos h132, if_pos h151, if_neg h156, if_pos h164], ht⟩) (fun q h => by cases h) d_M_isWay_172
                      ·
                        refine lv_iconst (v := 1) hx hb d_M_isWay_167 rfl ?_
                        refine lv_goto (tgt := 172) hx hb d_M_isWay_168 rfl ?_
                        exact W.zret (v := b2i true) hx hb hrt (b2i_nar _) (fun t ht hW => ⟨_, rfl, by rw [f_M_isWay, if_neg h2, if_neg (nt_of h11), if_neg h17, if_neg (nt_of h27), if_pos h36, if_neg h48, if_pos h110, if_pos h132, if_pos h151, if_neg h156, if_neg h164], ht⟩) (fun q h => by cases h) d_M_isWay_172
                ·
                  refine lv_iload_n hx hb d_M_isWay_135 rfl (lv_at hl 4 rfl) ?_
                  refine lv_iconst (v := 5) hx hb d_M_isWay_136 rfl ?_
                  refine lv_icmp_ne (tgt := 145) hx hb d_M_isWay_137 rfl (fun h137 => ?_) (fun h137 => ?_)
                  ·
                    refine lv_iconst (v := 3) hx hb d_M_isWay_145 rfl ?_
                    refine lv_istore (lv' := [(6, .int 3), (5, .int (nI (sA_mk A r g))), (0, .ref (rA_ad G 0)), (1, .int (nI r)), (2, .int (nI g)), (3, .int (nI u)), (4, .int (nI v))]) hx hb d_M_isWay_146 hl (by decide) rfl (fun ls hl => ?_)
                    refine lv_iload hx hb d_M_isWay_148 (lv_at hl 6 rfl) ?_
                    refine lv_iconst (v := 4) hx hb d_M_isWay_150 rfl ?_
                    refine lv_icmp_ne (tgt := 171) hx hb d_M_isWay_151 rfl (fun h151 => ?_) (fun h151 => ?_)
                    ·
                      refine lv_iconst (v := 0) hx hb d_M_isWay_171 rfl ?_
                      exact W.zret (v := b2i false) hx hb hrt (b2i_nar _) (fun t ht hW => ⟨_, rfl, by rw [f_M_isWay, if_neg h2, if_neg (nt_of h11), if_neg h17, if_neg (nt_of h27), if_pos h36, if_neg h48, if_pos h110, if_neg h132, if_neg h137, if_neg h151], ht⟩) (fun q h => by cases h) d_M_isWay_172
                    ·
                      refine lv_iload_n hx hb d_M_isWay_154 rfl (lv_at hl 5 rfl) ?_
                      refine lv_iconst (v := 4) hx hb d_M_isWay_155 rfl ?_
                      refine lv_icmp_eq (tgt := 171) hx hb d_M_isWay_156 rfl (fun h156 => ?_) (fun h156 => ?_)
                      ·
                        refine lv_iconst (v := 0) hx hb d_M_isWay_171 rfl ?_
                        exact W.zret (v := b2i false) hx hb hrt (b2i_nar _) (fun t ht hW => ⟨_, rfl, by rw [f_M_isWay, if_neg h2, if_neg (nt_of h11), if_neg h17, if_neg (nt_of h27), if_pos h36, if_neg h48, if_pos h110, if_neg h132, if_neg h137, if_pos h151, if_pos h156], ht⟩) (fun q h => by cases h) d_M_isWay_172
                      ·
                        refine lv_iload hx hb d_M_isWay_159 (lv_at hl 1 rfl) ?_
                        refine lv_iload hx hb d_M_isWay_161 (lv_at hl 0 rfl) ?_
                        refine lv_iand hx hb d_M_isWay_163 ?_
                        refine lv_if_eq (tgt := 171) hx hb d_M_isWay_164 rfl (fun h164 => ?_) (fun h164 => ?_)
                        ·
                          refine lv_iconst (v := 0) hx hb d_M_isWay_171 rfl ?_
                          exact W.zret (v := b2i false) hx hb hrt (b2i_nar _) (fun t ht hW => ⟨_, rfl, by rw [f_M_isWay, if_neg h2, if_neg (nt_of h11), if_neg h17, if_neg (nt_of h27), if_pos h36, if_neg h48, if_pos h110, if_neg h132, if_neg h137, if_pos h151, if_neg h156, if_pos h164], ht⟩) (fun q h => by cases h) d_M_isWay_172
                        ·
                          refine lv_iconst (v := 1) hx hb d_M_isWay_167 rfl ?_
                          refine lv_goto (tgt := 172) hx hb d_M_isWay_168 rfl ?_
                          exact W.zret (v := b2i true) hx hb hrt (b2i_nar _) (fun t ht hW => ⟨_, rfl, by rw [f_M_isWay, if_neg h2, if_neg (nt_of h11), if_neg h17, if_neg (nt_of h27), if_pos h36, if_neg h48, if_pos h110, if_neg h132, if_neg h137, if_pos h151, if_neg h156, if_neg h164], ht⟩) (fun q h => by cases h) d_M_isWay_172
                  ·
                    refine lv_bipush (v := 12) hx hb d_M_isWay_140 rfl ?_
                    refine lv_goto (tgt := 146) hx hb d_M_isWay_142 rfl ?_
                    refine lv_istore (lv' := [(6, .int 12), (5, .int (nI (sA_mk A r g))), (0, .ref (rA_ad G 0)), (1, .int (nI r)), (2, .int (nI g)), (3, .int (nI u)), (4, .int (nI v))]) hx hb d_M_isWay_146 hl (by decide) rfl (fun ls hl => ?_)
                    refine lv_iload hx hb d_M_isWay_148 (lv_at hl 6 rfl) ?_
                    refine lv_iconst (v := 4) hx hb d_M_isWay_150 rfl ?_
                    refine lv_icmp_ne (tgt := 171) hx hb d_M_isWay_151 rfl (fun h151 => ?_) (fun h151 => ?_)
                    ·
                      refine lv_iconst (v := 0) hx hb d_M_isWay_171 rfl ?_
                      exact W.zret (v := b2i false) hx hb hrt (b2i_nar _) (fun t ht hW => ⟨_, rfl, by rw [f_M_isWay, if_neg h2, if_neg (nt_of h11), if_neg h17, if_neg (nt_of h27), if_pos h36, if_neg h48, if_pos h110, if_neg h132, if_pos h137, if_neg h151], ht⟩) (fun q h => by cases h) d_M_isWay_172
                    ·
                      refine lv_iload_n hx hb d_M_isWay_154 rfl (lv_at hl 5 rfl) ?_
                      refine lv_iconst (v := 4) hx hb d_M_isWay_155 rfl ?_
                      refine lv_icmp_eq (tgt := 171) hx hb d_M_isWay_156 rfl (fun h156 => ?_) (fun h156 => ?_)
                      ·
                        refine lv_iconst (v := 0) hx hb d_M_isWay_171 rfl ?_
                        exact W.zret (v := b2i false) hx hb hrt (b2i_nar _) (fun t ht hW => ⟨_, rfl, by rw [f_M_isWay, if_neg h2, if_neg (nt_of h11), if_neg h17, if_neg (nt_of h27), if_pos h36, if_neg h48, if_pos h110, if_neg h132, if_pos h137, if_pos h151, if_pos h156], ht⟩) (fun q h => by cases h) d_M_isWay_172
                      ·
                        refine lv_iload hx hb d_M_isWay_159 (lv_at hl 1 rfl) ?_
                        refine lv_iload hx hb d_M_isWay_161 (lv_at hl 0 rfl) ?_
                        refine lv_iand hx hb d_M_isWay_163 ?_
                        refine lv_if_eq (tgt := 171) hx hb d_M_isWay_164 rfl (fun h164 => ?_) (fun h164 => ?_)
                        ·
                          refine lv_iconst (v := 0) hx hb d_M_isWay_171 rfl ?_
                          exact W.zret (v := b2i false) hx hb hrt (b2i_nar _) (fun t ht hW => ⟨_, rfl, by rw [f_M_isWay, if_neg h2, if_neg (nt_of h11), if_neg h17, if_neg (nt_of h27), if_pos h36, if_neg h48, if_pos h110, if_neg h132, if_pos h137, if_pos h151, if_neg h156, if_pos h164], ht⟩) (fun q h => by cases h) d_M_isWay_172
                        ·
                          refine lv_iconst (v := 1) hx hb d_M_isWay_167 rfl ?_
                          refine lv_goto (tgt := 172) hx hb d_M_isWay_168 rfl ?_
                          exact W.zret (v := b2i true) hx hb hrt (b2i_nar _) (fun t ht hW => ⟨_, rfl, by rw [f_M_isWay, if_neg h2, if_neg (nt_of h11), if_neg h17, if_neg (nt_of h27), if_pos h36, if_neg h48, if_pos h110, if_neg h132, if_pos h137, if_pos h151, if_neg h156, if_neg h164], ht⟩) (fun q h => by cases h) d_M_isWay_172
              ·
                refine lv_iload hx hb d_M_isWay_113 (lv_at hl 0 rfl) ?_
                refine lv_iload hx hb d_M_isWay_115 (lv_at hl 5 rfl) ?_
                refine lv_ishr hx hb d_M_isWay_117 ?_
                refine lv_iconst (v := 1) hx hb d_M_isWay_118 rfl ?_
                refine lv_iand hx hb d_M_isWay_119 ?_
                refine lv_iconst (v := 1) hx hb d_M_isWay_120 rfl ?_
                refine lv_icmp_ne (tgt := 128) hx hb d_M_isWay_121 rfl (fun h121 => ?_) (fun h121 => ?_)
                ·
                  refine lv_iconst (v := 0) hx hb d_M_isWay_128 rfl ?_
                  exact W.zret (v := b2i false) hx hb hrt (b2i_nar _) (fun t ht hW => ⟨_, rfl, by rw [f_M_isWay, if_neg h2, if_neg (nt_of h11), if_neg h17, if_neg (nt_of h27), if_pos h36, if_neg h48, if_neg h110, if_neg h121], ht⟩) (fun q h => by cases h) d_M_isWay_129
                ·
                  refine lv_iconst (v := 1) hx hb d_M_isWay_124 rfl ?_
                  refine lv_goto (tgt := 129) hx hb d_M_isWay_125 rfl ?_
                  exact W.zret (v := b2i true) hx hb hrt (b2i_nar _) (fun t ht hW => ⟨_, rfl, by rw [f_M_isWay, if_neg h2, if_neg (nt_of h11), if_neg h17, if_neg (nt_of h27), if_pos h36, if_neg h48, if_neg h110, if_pos h121], ht⟩) (fun q h => by cases h) d_M_isWay_129
            ·
              refine lv_iload_n hx hb d_M_isWay_51 rfl (lv_at hl 3 rfl) ?_
              refine lv_iconst (v := 2) hx hb d_M_isWay_52 rfl ?_
              refine lv_icmp_ge (tgt := 62) hx hb d_M_isWay_53 rfl (fun h53 => ?_) (fun h53 => ?_)
              ·
                refine lv_iload_n hx hb d_M_isWay_62 rfl (lv_at hl 3 rfl) ?_
                refine lv_iconst (v := 4) hx hb d_M_isWay_63 rfl ?_
                refine lv_icmp_ne (tgt := 73) hx hb d_M_isWay_64 rfl (fun h64 => ?_) (fun h64 => ?_)
                ·
                  refine lv_iload_n hx hb d_M_isWay_73 rfl (lv_at hl 3 rfl) ?_
                  refine lv_iconst (v := 1) hx hb d_M_isWay_74 rfl ?_
                  refine lv_icmp_le (tgt := 93) hx hb d_M_isWay_75 rfl (fun h75 => ?_) (fun h75 => ?_)
                  ·
                    refine lv_iconst (v := 0) hx hb d_M_isWay_93 rfl ?_
                    exact W.zret (v := b2i false) hx hb hrt (b2i_nar _) (fun t ht hW => ⟨_, rfl, by rw [f_M_isWay, if_neg h2, if_neg (nt_of h11), if_neg h17, if_neg (nt_of h27), if_pos h36, if_pos h48, if_pos h53, if_neg h64, if_pos h75], ht⟩) (fun q h => by cases h) d_M_isWay_94
                  ·
                    refine lv_iload_n hx hb d_M_isWay_78 rfl (lv_at hl 3 rfl) ?_
                    refine lv_iconst (v := 4) hx hb d_M_isWay_79 rfl ?_
                    refine lv_icmp_ge (tgt := 93) hx hb d_M_isWay_80 rfl (fun h80 => ?_) (fun h80 => ?_)
                    ·
                      refine lv_iconst (v := 0) hx hb d_M_isWay_93 rfl ?_
                      exact W.zret (v := b2i false) hx hb hrt (b2i_nar _) (fun t ht hW => ⟨_, rfl, by rw [f_M_isWay, if_neg h2, if_neg (nt_of h11), if_neg h17, if_neg (nt_of h27), if_pos h36, if_pos h48, if_pos h53, if_neg h64, if_neg h75, if_pos h80], ht⟩) (fun q h => by cases h) d_M_isWay_94
                    ·
                      refine lv_iload hx hb d_M_isWay_83 (lv_at hl 4 rfl) ?_
                      refine lv_iconst (v := 4) hx hb d_M_isWay_85 rfl ?_
                      refine lv_icmp_ne (tgt := 93) hx hb d_M_isWay_86 rfl (fun h86 => ?_) (fun h86 => ?_)
                      ·
                        refine lv_iconst (v := 0) hx hb d_M_isWay_93 rfl ?_
                        exact W.zret (v := b2i false) hx hb hrt (b2i_nar _) (fun t ht hW => ⟨_, rfl, by rw [f_M_isWay, if_neg h2, if_neg (nt_of h11), if_neg h17, if_neg (nt_of h27), if_pos h36, if_pos h48, if_pos h53, if_neg h64, if_neg h75, if_neg h80, if_neg h86], ht⟩) (fun q h => by cases h) d_M_isWay_94
                      ·
                        refine lv_iconst (v := 1) hx hb d_M_isWay_89 rfl ?_
                        refine lv_goto (tgt := 94) hx hb d_M_isWay_90 rfl ?_
                        exact W.zret (v := b2i true) hx hb hrt (b2i_nar _) (fun t ht hW => ⟨_, rfl, by rw [f_M_isWay, if_neg h2, if_neg (nt_of h11), if_neg h17, if_neg (nt_of h27), if_pos h36, if_pos h48, if_pos h53, if_neg h64, if_neg h75, if_neg h80, if_pos h86], ht⟩) (fun q h => by cases h) d_M_isWay_94
                ·
                  refine lv_iload hx hb d_M_isWay_67 (lv_at hl 4 rfl) ?_
                  refine lv_iconst (v := 5) hx hb d_M_isWay_69 rfl ?_
                  refine lv_icmp_eq (tgt := 89) hx hb d_M_isWay_70 rfl (fun h70 => ?_) (fun h70 => ?_)
                  ·
                    refine lv_iconst (v := 1) hx hb d_M_isWay_89 rfl ?_
                    refine lv_goto (tgt := 94) hx hb d_M_isWay_90 rfl ?_
                    exact W.zret (v := b2i true) hx hb hrt (b2i_nar _) (fun t ht hW => ⟨_, rfl, by rw [f_M_isWay, if_neg h2, if_neg (nt_of h11), if_neg h17, if_neg (nt_of h27), if_pos h36, if_pos h48, if_pos h53, if_pos h64, if_pos h70], ht⟩) (fun q h => by cases h) d_M_isWay_94
                  ·
                    refine lv_iload_n hx hb d_M_isWay_73 rfl (lv_at hl 3 rfl) ?_
                    refine lv_iconst (v := 1) hx hb d_M_isWay_74 rfl ?_
                    refine lv_icmp_le (tgt := 93) hx hb d_M_isWay_75 rfl (fun h75 => ?_) (fun h75 => ?_)
                    ·
                      refine lv_iconst (v := 0) hx hb d_M_isWay_93 rfl ?_
                      exact W.zret (v := b2i false) hx hb hrt (b2i_nar _) (fun t ht hW => ⟨_, rfl, by rw [f_M_isWay, if_neg h2, if_neg (nt_of h11), if_neg h17, if_neg (nt_of h27), if_pos h36, if_pos h48, if_pos h53, if_pos h64, if_neg h70, if_pos h75], ht⟩) (fun q h => by cases h) d_M_isWay_94
                    ·
                      refine lv_iload_n hx hb d_M_isWay_78 rfl (lv_at hl 3 rfl) ?_
                      refine lv_iconst (v := 4) hx hb d_M_isWay_79 rfl ?_
                      refine lv_icmp_ge (tgt := 93) hx hb d_M_isWay_80 rfl (fun h80 => ?_) (fun h80 => ?_)
                      ·
                        refine lv_iconst (v := 0) hx hb d_M_isWay_93 rfl ?_
                        exact W.zret (v := b2i false) hx hb hrt (b2i_nar _) (fun t ht hW => ⟨_, rfl, by rw [f_M_isWay, if_neg h2, if_neg (nt_of h11), if_neg h17, if_neg (nt_of h27), if_pos h36, if_pos h48, if_pos h53, if_pos h64, if_neg h70, if_neg h75, if_pos h80], ht⟩) (fun q h => by cases h) d_M_isWay_94
                      ·
                        refine lv_iload hx hb d_M_isWay_83 (lv_at hl 4 rfl) ?_
                        refine lv_iconst (v := 4) hx hb d_M_isWay_85 rfl ?_
                        refine lv_icmp_ne (tgt := 93) hx hb d_M_isWay_86 rfl (fun h86 => ?_) (fun h86 => ?_)
                        ·
                          refine lv_iconst (v := 0) hx hb d_M_isWay_93 rfl ?_
                          exact W.zret (v := b2i false) hx hb hrt (b2i_nar _) (fun t ht hW => ⟨_, rfl, by rw [f_M_isWay, if_neg h2, if_neg (nt_of h11), if_neg h17, if_neg (nt_of h27), if_pos h36, if_pos h48, if_pos h53, if_pos h64, if_neg h70, if_neg h75, if_neg h80, if_neg h86], ht⟩) (fun q h => by cases h) d_M_isWay_94
                        ·
                          refine lv_iconst (v := 1) hx hb d_M_isWay_89 rfl ?_
                          refine lv_goto (tgt := 94) hx hb d_M_isWay_90 rfl ?_
                          exact W.zret (v := b2i true) hx hb hrt (b2i_nar _) (fun t ht hW => ⟨_, rfl, by rw [f_M_isWay, if_neg h2, if_neg (nt_of h11), if_neg h17, if_neg (nt_of h27), if_pos h36, if_pos h48, if_pos h53, if_pos h64, if_neg h70, if_neg h75, if_neg h80, if_pos h86], ht⟩) (fun q h => by cases h) d_M_isWay_94
              ·
                refine lv_iload hx hb d_M_isWay_56 (lv_at hl 4 rfl) ?_
                refine lv_iconst (v := 5) hx hb d_M_isWay_58 rfl ?_
                refine lv_icmp_eq (tgt := 89) hx hb d_M_isWay_59 rfl (fun h59 => ?_) (fun h59 => ?_)
                ·
                  refine lv_iconst (v := 1) hx hb d_M_isWay_89 rfl ?_
                  refine lv_goto (tgt := 94) hx hb d_M_isWay_90 rfl ?_
                  exact W.zret (v := b2i true) hx hb hrt (b2i_nar _) (fun t ht hW => ⟨_, rfl, by rw [f_M_isWay, if_neg h2, if_neg (nt_of h11), if_neg h17, if_neg (nt_of h27), if_pos h36, if_pos h48, if_neg h53, if_pos h59], ht⟩) (fun q h => by cases h) d_M_isWay_94
                ·
                  refine lv_iload_n hx hb d_M_isWay_62 rfl (lv_at hl 3 rfl) ?_
                  refine lv_iconst (v := 4) hx hb d_M_isWay_63 rfl ?_
                  refine lv_icmp_ne (tgt := 73) hx hb d_M_isWay_64 rfl (fun h64 => ?_) (fun h64 => ?_)
                  ·
                    refine lv_iload_n hx hb d_M_isWay_73 rfl (lv_at hl 3 rfl) ?_
                    refine lv_iconst (v := 1) hx hb d_M_isWay_74 rfl ?_
                    refine lv_icmp_le (tgt := 93) hx hb d_M_isWay_75 rfl (fun h75 => ?_) (fun h75 => ?_)
                    ·
                      refine lv_iconst (v := 0) hx hb d_M_isWay_93 rfl ?_
                      exact W.zret (v := b2i false) hx hb hrt (b2i_nar _) (fun t ht hW => ⟨_, rfl, by rw [f_M_isWay, if_neg h2, if_neg (nt_of h11), if_neg h17, if_neg (nt_of h27), if_pos h36, if_pos h48, if_neg h53, if_neg h59, if_neg h64, if_pos h75], ht⟩) (fun q h => by cases h) d_M_isWay_94
                    ·
                      refine lv_iload_n hx hb d_M_isWay_78 rfl (lv_at hl 3 rfl) ?_
                      refine lv_iconst (v := 4) hx hb d_M_isWay_79 rfl ?_
                      refine lv_icmp_ge (tgt := 93) hx hb d_M_isWay_80 rfl (fun h80 => ?_) (fun h80 => ?_)
                      ·
                        refine lv_iconst (v := 0) hx hb d_M_isWay_93 rfl ?_
                        exact W.zret (v := b2i false) hx hb hrt (b2i_nar _) (fun t ht hW => ⟨_, rfl, by rw [f_M_isWay, if_neg h2, if_neg (nt_of h11), if_neg h17, if_neg (nt_of h27), if_pos h36, if_pos h48, if_neg h53, if_neg h59, if_neg h64, if_neg h75, if_pos h80], ht⟩) (fun q h => by cases h) d_M_isWay_94
                      ·
                        refine lv_iload hx hb d_M_isWay_83 (lv_at hl 4 rfl) ?_
                        refine lv_iconst (v := 4) hx hb d_M_isWay_85 rfl ?_
                        refine lv_icmp_ne (tgt := 93) hx hb d_M_isWay_86 rfl (fun h86 => ?_) (fun h86 => ?_)
                        ·
                          refine lv_iconst (v := 0) hx hb d_M_isWay_93 rfl ?_
                          exact W.zret (v := b2i false) hx hb hrt (b2i_nar _) (fun t ht hW => ⟨_, rfl, by rw [f_M_isWay, if_neg h2, if_neg (nt_of h11), if_neg h17, if_neg (nt_of h27), if_pos h36, if_pos h48, if_neg h53, if_neg h59, if_neg h64, if_neg h75, if_neg h80, if_neg h86], ht⟩) (fun q h => by cases h) d_M_isWay_94
                        ·
                          refine lv_iconst (v := 1) hx hb d_M_isWay_89 rfl ?_
                          refine lv_goto (tgt := 94) hx hb d_M_isWay_90 rfl ?_
                          exact W.zret (v := b2i true) hx hb hrt (b2i_nar _) (fun t ht hW => ⟨_, rfl, by rw [f_M_isWay, if_neg h2, if_neg (nt_of h11), if_neg h17, if_neg (nt_of h27), if_pos h36, if_pos h48, if_neg h53, if_neg h59, if_neg h64, if_neg h75, if_neg h80, if_pos h86], ht⟩) (fun q h => by cases h) d_M_isWay_94
                  ·
                    refine lv_iload hx hb d_M_isWay_67 (lv_at hl 4 rfl) ?_
                    refine lv_iconst (v := 5) hx hb d_M_isWay_69 rfl ?_
                    refine lv_icmp_eq (tgt := 89) hx hb d_M_isWay_70 rfl (fun h70 => ?_) (fun h70 => ?_)
                    ·
                      refine lv_iconst (v := 1) hx hb d_M_isWay_89 rfl ?_
                      refine lv_goto (tgt := 94) hx hb d_M_isWay_90 rfl ?_
                      exact W.zret (v := b2i true) hx hb hrt (b2i_nar _) (fun t ht hW => ⟨_, rfl, by rw [f_M_isWay, if_neg h2, if_neg (nt_of h11), if_neg h17, if_neg (nt_of h27), if_pos h36, if_pos h48, if_neg h53, if_neg h59, if_pos h64, if_pos h70], ht⟩) (fun q h => by cases h) d_M_isWay_94
                    ·
                      refine lv_iload_n hx hb d_M_isWay_73 rfl (lv_at hl 3 rfl) ?_
                      refine lv_iconst (v := 1) hx hb d_M_isWay_74 rfl ?_
                      refine lv_icmp_le (tgt := 93) hx hb d_M_isWay_75 rfl (fun h75 => ?_) (fun h75 => ?_)
                      ·
                        refine lv_iconst (v := 0) hx hb d_M_isWay_93 rfl ?_
                        exact W.zret (v := b2i false) hx hb hrt (b2i_nar _) (fun t ht hW => ⟨_, rfl, by rw [f_M_isWay, if_neg h2, if_neg (nt_of h11), if_neg h17, if_neg (nt_of h27), if_pos h36, if_pos h48, if_neg h53, if_neg h59, if_pos h64, if_neg h70, if_pos h75], ht⟩) (fun q h => by cases h) d_M_isWay_94
                      ·
                        refine lv_iload_n hx hb d_M_isWay_78 rfl (lv_at hl 3 rfl) ?_
                        refine lv_iconst (v := 4) hx hb d_M_isWay_79 rfl ?_
                        refine lv_icmp_ge (tgt := 93) hx hb d_M_isWay_80 rfl (fun h80 => ?_) (fun h80 => ?_)
                        ·
                          refine lv_iconst (v := 0) hx hb d_M_isWay_93 rfl ?_
                          exact W.zret (v := b2i false) hx hb hrt (b2i_nar _) (fun t ht hW => ⟨_, rfl, by rw [f_M_isWay, if_neg h2, if_neg (nt_of h11), if_neg h17, if_neg (nt_of h27), if_pos h36, if_pos h48, if_neg h53, if_neg h59, if_pos h64, if_neg h70, if_neg h75, if_pos h80], ht⟩) (fun q h => by cases h) d_M_isWay_94
                        ·
                          refine lv_iload hx hb d_M_isWay_83 (lv_at hl 4 rfl) ?_
                          refine lv_iconst (v := 4) hx hb d_M_isWay_85 rfl ?_
                          refine lv_icmp_ne (tgt := 93) hx hb d_M_isWay_86 rfl (fun h86 => ?_) (fun h86 => ?_)
                          ·
                            refine lv_iconst (v := 0) hx hb d_M_isWay_93 rfl ?_
                            exact W.zret (v := b2i false) hx hb hrt (b2i_nar _) (fun t ht hW => ⟨_, rfl, by rw [f_M_isWay, if_neg h2, if_neg (nt_of h11), if_neg h17, if_neg (nt_of h27), if_pos h36, if_pos h48, if_neg h53, if_neg h59, if_pos h64, if_neg h70, if_neg h75, if_neg h80, if_neg h86], ht⟩) (fun q h => by cases h) d_M_isWay_94
                          ·
                            refine lv_iconst (v := 1) hx hb d_M_isWay_89 rfl ?_
                            refine lv_goto (tgt := 94) hx hb d_M_isWay_90 rfl ?_
                            exact W.zret (v := b2i true) hx hb hrt (b2i_nar _) (fun t ht hW => ⟨_, rfl, by rw [f_M_isWay, if_neg h2, if_neg (nt_of h11), if_neg h17, if_neg (nt_of h27), if_pos h36, if_pos h48, if_neg h53, if_neg h59, if_pos h64, if_neg h70, if_neg h75, if_neg h80, if_pos h86], ht⟩) (fun q h => by cases h) d_M_isWay_94
          ·
            have h36 := b2i_f h36
            refine lv_iconst (v := 0) hx hb d_M_isWay_39 rfl ?_
            exact W.zret (v := b2i false) hx hb hrt (b2i_nar _) (fun t ht hW => ⟨_, rfl, by rw [f_M_isWay, if_neg h2, if_neg (nt_of h11), if_neg h17, if_neg (nt_of h27), if_neg (nt_of h36)], ht⟩) (fun q h => by cases h) d_M_isWay_40
abbrev rm_M_digitOf : Room := { frames := 0, cells := 0, slots := 0, locals := 0 }
set_option maxRecDepth 20000 in
set_option maxHeartbeats 4000000 in
theorem c_M_digitOf (l : Launch) (X : Xt) (G : Gr) (A : St) (i : Nat) (hI : Inv A) (hi : i < sA_n A) : Met l y_M_digitOf (Cond.code y_M_digitOf b_M_digitOf 2 (some .int) :: WA) rm_M_digitOf (va_Pc [.ref (rA_ad G 0), .int (nI i)] (fun U => QR X G A U.heap ∧ KK X U)) (vp_Si (fun ans => ans = f_M_digitOf A i)) 0 0 (fun _ => False) := by
  refine vx_met (cc := b_M_digitOf) (maxL := 2) (ret := (some .int)) (by decide) rfl (Nat.le_of_ble_eq_true rfl) ?_
  intro p e s m below meth c ls hx hb hrt hts hown hlocks hname hml hB hl
  obtain ⟨hP, hK⟩ := hB
  have hown : s.vm.findClass R_Model = some m.cls := hown
  have hl : lv_has ls 2 [(0, .ref (rA_ad G 0)), (1, .int (nI i))] := hl
  have hP : va_P X.1 classes (rw_ X G A) s.heap := hP
  have hn := hI.1
  have hR := hI.2.1
  obtain ⟨w1, w2, w3, w4, w5, -⟩ := hI.2.2.1 i hi
  have wl := hR.1 (sA_rt A i)
  refine lv_iconst (v := 1) hx hb d_M_digitOf_0 rfl ?_
  refine lv_iconst (v := 4) hx hb d_M_digitOf_1 rfl ?_
  refine lv_aload_n hx hb d_M_digitOf_2 rfl (lv_at hl 0 rfl) ?_
  refine va_get (D := X.1) (ci := 6) (C := R_Model) (T := F_Model) (N := 24) hx hb hts hin_Model hown hK.1 hP 0 rw_0 rfl 5 (by decide) (hts _ (wd_2 159 rfl rfl)) (fun _ h9 => h9) rfl d_M_digitOf_3 ?_
  refine lv_iload_n hx hb d_M_digitOf_6 rfl (lv_at hl 1 rfl) ?_
  refine va_iald hx hb hK.1 hP 5 0 rw_5 rfl (vp_in_nI (n := i) (by omega) (by omega)) d_M_digitOf_7 ?_
  rw [nI_clamp (n := i) (by omega)]
  refine lv_imul hx hb d_M_digitOf_8 ?_
  refine lv_iadd hx hb d_M_digitOf_9 ?_
  refine lv_aload_n hx hb d_M_digitOf_10 rfl (lv_at hl 0 rfl) ?_
  refine va_get (D := X.1) (ci := 6) (C := R_Model) (T := F_Model) (N := 24) hx hb hts hin_Model hown hK.1 hP 0 rw_0 rfl 6 (by decide) (hts _ (wd_2 160 rfl rfl)) (fun _ h9 => h9) rfl d_M_digitOf_11 ?_
  refine lv_iload_n hx hb d_M_digitOf_14 rfl (lv_at hl 1 rfl) ?_
  refine va_iald hx hb hK.1 hP 6 0 rw_6 rfl (vp_in_nI (n := i) (by omega) (by omega)) d_M_digitOf_15 ?_
  rw [nI_clamp (n := i) (by omega)]
  refine lv_iadd hx hb d_M_digitOf_16 ?_
  exact W.iret (v := ((1 + (4 * (nI (sA_rt A i)))) + (nI (sA_sg A i)))) hx hb hrt (fun t ht hW => ⟨_, rfl, dgt_nI _ _, ht⟩) (fun q h => by cases h) d_M_digitOf_17
abbrev rm_M_power : Room := { frames := 0, cells := 0, slots := 0, locals := 0 }
set_option maxRecDepth 20000 in
set_option maxHeartbeats 4000000 in
theorem lp_M_power {p : Program} {l : Launch} {e : Env} {s : State} {m : MethodId} {args : Array Value} {below : List Frame} {meth : Method} {c : Code} {Q : State → Prop} {X : Xt} {k : Nat} (hx : p.tables.exec = Jvm.exec) (hb : c.code = b_M_power) (hts : ∀ w ∈ Cond.code y_M_power b_M_power 3 (some .int) :: WA, w.before args s = true) (hown : s.vm.findClass R_Model = some m.cls) (hml : c.maxLocals = 3) (hK : KK X s) (hk : k ≤ 5) (kont : ∀ ls : Array Slot, lv_has ls 3 [(1, .int (nI (9 ^ k)))] → W p l e rm_M_power s m args below meth c s.heap [] 0 0 Q (F0 m 20 ls [])) : ∀ (r j : Nat) (ls : Array Slot), j + r = k → lv_has ls 3 [(2, .int (nI j)), (1, .int (nI (9 ^ j))), (0, .int (nI k))] → W p l e rm_M_power s m args below meth c s.heap [] 0 0 Q (F0 m 4 ls []) := by
  intro r
  induction r with
  | zero =>
    intro j ls hj hl
    have hj : j = k := by omega
    subst hj
    refine lv_iload_n hx hb d_M_power_4 rfl (lv_at hl 0 rfl) ?_
    refine lv_iload_n hx hb d_M_power_5 rfl (lv_at hl 2 rfl) ?_
    refine lv_icmp_ge (tgt := 20) hx hb d_M_power_6 rfl (fun h6 => ?_) (fun h6 => ?_)
    ·
      exact kont ls (lv_sub hl [1] rfl)
    ·
      exact absurd (Int32.le_refl _) h6
  | succ r ih =>
    intro j ls hj hl
    refine lv_iload_n hx hb d_M_power_4 rfl (lv_at hl 0 rfl) ?_
    refine lv_iload_n hx hb d_M_power_5 rfl (lv_at hl 2 rfl) ?_
    refine lv_icmp_ge (tgt := 20) hx hb d_M_power_6 rfl (fun h6 => ?_) (fun h6 => ?_)
    ·
      exact absurd h6 (nI_ge (a := j) (b := k) (by omega) (by omega))
    ·
      refine lv_bipush (v := 9) hx hb d_M_power_9 rfl ?_
      refine lv_iload_n hx hb d_M_power_11 rfl (lv_at hl 1 rfl) ?_
      refine lv_imul hx hb d_M_power_12 ?_
      rw [show (9 : Int32) * nI (9 ^ j) = nI (9 ^ (j + 1)) by rw [show (9 : Int32) * nI (9 ^ j) = nI (9 * 9 ^ j) from pk_mul 9 _, Nat.pow_succ, Nat.mul_comm]]
      refine lv_istore_n (lv' := [(1, .int (nI (9 ^ (j + 1)))), (2, .int (nI j)), (0, .int (nI k))]) hx hb d_M_power_13 rfl hl (by decide) rfl (fun ls hl => ?_)
      refine lv_iinc (k := 1) (v := (nI j + 1)) (lv' := [(2, .int (nI j + 1)), (1, .int (nI (9 ^ (j + 1)))), (0, .int (nI k))]) hx hb d_M_power_14 hl rfl rfl (by decide) rfl (fun ls hl => ?_)
      refine lv_goto (tgt := 4) hx hb d_M_power_17 rfl ?_
      exact ih (j + 1) ls (by omega) (by rw [← nI_1]; exact lv_sub hl [0, 1, 2] rfl)
set_option maxRecDepth 20000 in
set_option maxHeartbeats 4000000 in
theorem c_M_power (l : Launch) (X : Xt) (k : Nat) (hk : k ≤ 5) : Met l y_M_power (Cond.code y_M_power b_M_power 3 (some .int) :: WA) rm_M_power (va_Pc [.int (nI k)] (fun U => True ∧ KK X U)) (vp_Si (fun ans => ans = f_M_power k)) 0 0 (fun _ => False) := by
  refine vx_met (cc := b_M_power) (maxL := 3) (ret := (some .int)) (by decide) rfl (Nat.le_of_ble_eq_true rfl) ?_
  intro p e s m below meth c ls hx hb hrt hts hown hlocks hname hml hB hl
  obtain ⟨hP, hK⟩ := hB
  have hown : s.vm.findClass R_Model = some m.cls := hown
  have hl : lv_has ls 3 [(0, .int (nI k))] := hl
  refine lv_iconst (v := 1) hx hb d_M_power_0 rfl ?_
  refine lv_istore_n (lv' := [(1, .int 1), (0, .int (nI k))]) hx hb d_M_power_1 rfl hl (by decide) rfl (fun ls hl => ?_)
  refine lv_iconst (v := 0) hx hb d_M_power_2 rfl ?_
  refine lv_istore_n (lv' := [(2, .int 0), (1, .int 1), (0, .int (nI k))]) hx hb d_M_power_3 rfl hl (by decide) rfl (fun ls hl => ?_)
  refine lp_M_power (X := X) hx hb hts hown hml hK hk (fun ls hl => ?_) k 0 ls (by omega) (lv_sub hl [0, 1, 2] rfl)
  refine lv_iload_n hx hb d_M_power_20 rfl (lv_at hl 0 rfl) ?_
  exact W.iret (v := nI (9 ^ k)) hx hb hrt (fun t ht hW => ⟨_, rfl, rfl, ht⟩) (fun q h => by cases h) d_M_power_21
abbrev rm_M_digit : Room := { frames := 1, cells := 0, slots := 0, locals := 22 }
set_option maxRecDepth 20000 in
set_option maxHeartbeats 4000000 in
theorem c_M_digit (l : Launch) (X : Xt) (a : Nat) (q : Nat) (ha : a < 59049) (hq : q < 5) : Met l y_M_digit (Cond.code y_M_digit b_M_digit 2 (some .int) :: WA) rm_M_digit (va_Pc [.int (nI a), .int (nI q)] (fun U => True ∧ KK X U)) (vp_Si (fun ans => ans = f_M_digit a q)) 0 0 (fun _ => False) := by
  refine vx_met (cc := b_M_digit) (maxL := 2) (ret := (some .int)) (by decide) rfl (Nat.le_of_ble_eq_true rfl) ?_
  intro p e s m below meth c ls hx hb hrt hts hown hlocks hname hml hB hl
  obtain ⟨hP, hK⟩ := hB
  have hown : s.vm.findClass R_Model = some m.cls := hown
  have hl : lv_has ls 2 [(0, .int (nI a)), (1, .int (nI q))] := hl
  refine lv_iload_n hx hb d_M_digit_0 rfl (lv_at hl 0 rfl) ?_
  refine lv_iload_n hx hb d_M_digit_1 rfl (lv_at hl 1 rfl) ?_
  refine vp_callSi (W.runS (As := [.int (nI q)]) (rest := [.int (nI a)]) ⟨hx, hb, hml, hown, hts⟩ (c_M_power l X q (by omega)) (va_cwS 1 hts (gT (wd_3 7 rfl rfl) (wd_3 8 rfl rfl) (wd_1 6 rfl rfl) (wd_3 9 rfl rfl)) rfl rfl rfl hd_M_power ⟨Nat.le_of_ble_eq_true rfl, Nat.le_of_ble_eq_true rfl⟩) (vx_preS (P := fun _ => True) trivial hK) rfl rfl hl.1 rfl (lv_room (Nat.le_of_ble_eq_true rfl)) d_M_digit_2 ⟨Nat.zero_le _, Nat.zero_le _⟩) (fun r2 e2 => ?_)
  subst e2
  rw [show f_M_power q = nI (9 ^ q) from rfl]
  refine lv_idiv hx hb d_M_digit_5 (nI_ne0 (Nat.pow_pos (by decide)) (pow9 hq)) ?_
  rw [pk_div (by omega) (Nat.pow_pos (by decide)) (pow9 hq)]
  refine lv_bipush (v := 9) hx hb d_M_digit_6 rfl ?_
  refine lv_irem hx hb d_M_digit_8 (by decide) ?_
  rw [rem9 (Nat.lt_of_le_of_lt (Nat.div_le_self _ _) (by omega))]
  rw [show nI (a / 9 ^ q % 9) = f_M_digit a q from rfl]
  exact W.iret (v := f_M_digit a q) hx hb hrt (fun t ht hW => ⟨_, rfl, rfl, ht⟩) (fun q h => by cases h) d_M_digit_9
