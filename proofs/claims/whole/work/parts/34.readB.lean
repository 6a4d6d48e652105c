abbrev rm_U_maskAt : Room := { frames := 1, cells := 0, slots := 0, locals := 21 }
def f_U_maskAt (A : St) (r : Nat) (x : Int32) : Int32 :=
  if (f_U_has A r x) then
    nI (sA_mk A r x.toNatClampNeg)
  else
    0
set_option maxRecDepth 20000 in
set_option maxHeartbeats 4000000 in
theorem c_U_maskAt (l : Launch) (X : Xt) (G : Gc) (A : St) (r : Nat) (hr : r < 2) (x : Int32) (hR : rOk A) : Met l y_U_maskAt (Cond.code y_U_maskAt b_U_maskAt 2 (some .int) :: WA) rm_U_maskAt (va_Pc [.ref (gA_ad G (8 + 4 * r)), .int x] (fun U => PR X G A U.heap ∧ KK X U)) (vp_Si (fun ans => ans = f_U_maskAt A r x)) 0 0 (fun _ => False) := by
  refine vx_met (cc := b_U_maskAt) (maxL := 2) (ret := (some .int)) (by decide) rfl (Nat.le_of_ble_eq_true rfl) ?_
  intro p e s m below meth c ls hx hb hrt hts hown hlocks hname hml hB hl
  obtain ⟨hP, hK⟩ := hB
  have hown : s.vm.findClass R_Route = some m.cls := hown
  have hl : lv_has ls 2 [(0, .ref (gA_ad G (8 + 4 * r))), (1, .int x)] := hl
  have hP : va_P X.1 classes (cw X G A) s.heap := hP
  refine lv_aload_n hx hb d_U_maskAt_0 rfl (lv_at hl 0 rfl) ?_
  refine lv_iload_n hx hb d_U_maskAt_1 rfl (lv_at hl 1 rfl) ?_
  refine vp_callSi (W.runV (As := [.int x]) (rest := []) ⟨hx, hb, hml, hown, hts⟩ (c_U_has l X G A r hr x) (cwV 1 hts (gV (wd_1 200 rfl rfl) (wd_1 202 rfl rfl) (wd_s 1 rfl) (wd_1 3 rfl rfl) (wd_1 203 rfl rfl)) rfl rfl rfl ⟨rfl, hd_U_has⟩ ⟨Nat.le_of_ble_eq_true rfl, Nat.le_of_ble_eq_true rfl⟩) (vx_preV (P := PR X G A) hP hK (va_recv hK.1 hP (ci := 4) rfl (cw_r hr))) rfl rfl hl.1 rfl (lv_room (Nat.le_of_ble_eq_true rfl)) d_U_maskAt_2 ⟨Nat.zero_le _, Nat.zero_le _⟩) (fun r2 e2 => ?_)
  subst e2
  refine lv_if_eq (tgt := 17) hx hb d_U_maskAt_5 rfl (fun h5 => ?_) (fun h5 => ?_)
  ·
    have h5 := b2i_f h5
    refine lv_iconst (v := 0) hx hb d_U_maskAt_17 rfl ?_
    exact W.iret (v := 0) hx hb hrt (fun t ht hW => ⟨_, rfl, by rw [f_U_maskAt, if_neg (nt_of h5)], ht⟩) (fun q h => by cases h) d_U_maskAt_18
  ·
    have h5 := b2i_t h5
    refine lv_aload_n hx hb d_U_maskAt_8 rfl (lv_at hl 0 rfl) ?_
    refine va_get (D := X.1) (ci := 4) (C := R_Route) (T := F_Route) (N := 4) hx hb hts hin_Route hown hK.1 hP (8 + 4 * r) (cw_r hr) rfl 0 (by decide) (hts _ (wd_1 32 rfl rfl)) (fun _ h9 => h9) rfl d_U_maskAt_9 ?_
    refine lv_iload_n hx hb d_U_maskAt_12 rfl (lv_at hl 1 rfl) ?_
    refine va_iald hx hb hK.1 hP (9 + 4 * r) 0 (cw_rm hr) rfl (has_in hR h5) d_U_maskAt_13 ?_
    refine lv_goto (tgt := 18) hx hb d_U_maskAt_14 rfl ?_
    exact W.iret (v := nI (sA_mk A r x.toNatClampNeg)) hx hb hrt (fun t ht hW => ⟨_, rfl, by rw [f_U_maskAt, if_pos h5], ht⟩) (fun q h => by cases h) d_U_maskAt_18
abbrev rm_U_timeAt : Room := { frames := 1, cells := 0, slots := 0, locals := 21 }
def f_U_timeAt (A : St) (r : Nat) (x : Int32) : Int32 :=
  if (f_U_has A r x) then
    nI (sA_tm A r x.toNatClampNeg)
  else
    0
set_option maxRecDepth 20000 in
set_option maxHeartbeats 4000000 in
theorem c_U_timeAt (l : Launch) (X : Xt) (G : Gc) (A : St) (r : Nat) (hr : r < 2) (x : Int32) (hR : rOk A) : Met l y_U_timeAt (Cond.code y_U_timeAt b_U_timeAt 2 (some .int) :: WA) rm_U_timeAt (va_Pc [.ref (gA_ad G (8 + 4 * r)), .int x] (fun U => PR X G A U.heap ∧ KK X U)) (vp_Si (fun ans => ans = f_U_timeAt A r x)) 0 0 (fun _ => False) := by
  refine vx_met (cc := b_U_timeAt) (maxL := 2) (ret := (some .int)) (by decide) rfl (Nat.le_of_ble_eq_true rfl) ?_
  intro p e s m below meth c ls hx hb hrt hts hown hlocks hname hml hB hl
  obtain ⟨hP, hK⟩ := hB
  have hown : s.vm.findClass R_Route = some m.cls := hown
  have hl : lv_has ls 2 [(0, .ref (gA_ad G (8 + 4 * r))), (1, .int x)] := hl
  have hP : va_P X.1 classes (cw X G A) s.heap := hP
  refine lv_aload_n hx hb d_U_timeAt_0 rfl (lv_at hl 0 rfl) ?_
  refine lv_iload_n hx hb d_U_timeAt_1 rfl (lv_at hl 1 rfl) ?_
  refine vp_callSi (W.runV (As := [.int x]) (rest := []) ⟨hx, hb, hml, hown, hts⟩ (c_U_has l X G A r hr x) (cwV 1 hts (gV (wd_1 200 rfl rfl) (wd_1 202 rfl rfl) (wd_s 1 rfl) (wd_1 3 rfl rfl) (wd_1 203 rfl rfl)) rfl rfl rfl ⟨rfl, hd_U_has⟩ ⟨Nat.le_of_ble_eq_true rfl, Nat.le_of_ble_eq_true rfl⟩) (vx_preV (P := PR X G A) hP hK (va_recv hK.1 hP (ci := 4) rfl (cw_r hr))) rfl rfl hl.1 rfl (lv_room (Nat.le_of_ble_eq_true rfl)) d_U_timeAt_2 ⟨Nat.zero_le _, Nat.zero_le _⟩) (fun r2 e2 => ?_)
  subst e2
  refine lv_if_eq (tgt := 17) hx hb d_U_timeAt_5 rfl (fun h5 => ?_) (fun h5 => ?_)
  ·
    have h5 := b2i_f h5
    refine lv_iconst (v := 0) hx hb d_U_timeAt_17 rfl ?_
    exact W.iret (v := 0) hx hb hrt (fun t ht hW => ⟨_, rfl, by rw [f_U_timeAt, if_neg (nt_of h5)], ht⟩) (fun q h => by cases h) d_U_timeAt_18
  ·
    have h5 := b2i_t h5
    refine lv_aload_n hx hb d_U_timeAt_8 rfl (lv_at hl 0 rfl) ?_
    refine va_get (D := X.1) (ci := 4) (C := R_Route) (T := F_Route) (N := 4) hx hb hts hin_Route hown hK.1 hP (8 + 4 * r) (cw_r hr) rfl 1 (by decide) (hts _ (wd_1 33 rfl rfl)) (fun _ h9 => h9) rfl d_U_timeAt_9 ?_
    refine lv_iload_n hx hb d_U_timeAt_12 rfl (lv_at hl 1 rfl) ?_
    refine va_iald hx hb hK.1 hP (10 + 4 * r) 0 (cw_rt hr) rfl (has_in hR h5) d_U_timeAt_13 ?_
    refine lv_goto (tgt := 18) hx hb d_U_timeAt_14 rfl ?_
    exact W.iret (v := nI (sA_tm A r x.toNatClampNeg)) hx hb hrt (fun t ht hW => ⟨_, rfl, by rw [f_U_timeAt, if_pos h5], ht⟩) (fun q h => by cases h) d_U_timeAt_18
abbrev rm_U_limitAt : Room := { frames := 1, cells := 0, slots := 0, locals := 21 }
def f_U_limitAt (A : St) (r : Nat) (x : Int32) : Int32 :=
  if (f_U_has A r x) then
    nI (sA_lm A r x.toNatClampNeg)
  else
    0
set_option maxRecDepth 20000 in
set_option maxHeartbeats 4000000 in
theorem c_U_limitAt (l : Launch) (X : Xt) (G : Gc) (A : St) (r : Nat) (hr : r < 2) (x : Int32) (hR : rOk A) : Met l y_U_limitAt (Cond.code y_U_limitAt b_U_limitAt 2 (some .int) :: WA) rm_U_limitAt (va_Pc [.ref (gA_ad G (8 + 4 * r)), .int x] (fun U => PR X G A U.heap ∧ KK X U)) (vp_Si (fun ans => ans = f_U_limitAt A r x)) 0 0 (fun _ => False) := by
  refine vx_met (cc := b_U_limitAt) (maxL := 2) (ret := (some .int)) (by decide) rfl (Nat.le_of_ble_eq_true rfl) ?_
  intro p e s m below meth c ls hx hb hrt hts hown hlocks hname hml hB hl
  obtain ⟨hP, hK⟩ := hB
  have hown : s.vm.findClass R_Route = some m.cls := hown
  have hl : lv_has ls 2 [(0, .ref (gA_ad G (8 + 4 * r))), (1, .int x)] := hl
  have hP : va_P X.1 classes (cw X G A) s.heap := hP
  refine lv_aload_n hx hb d_U_limitAt_0 rfl (lv_at hl 0 rfl) ?_
  refine lv_iload_n hx hb d_U_limitAt_1 rfl (lv_at hl 1 rfl) ?_
  refine vp_callSi (W.runV (As := [.int x]) (rest := []) ⟨hx, hb, hml, hown, hts⟩ (c_U_has l X G A r hr x) (cwV 1 hts (gV (wd_1 200 rfl rfl) (wd_1 202 rfl rfl) (wd_s 1 rfl) (wd_1 3 rfl rfl) (wd_1 203 rfl rfl)) rfl rfl rfl ⟨rfl, hd_U_has⟩ ⟨Nat.le_of_ble_eq_true rfl, Nat.le_of_ble_eq_true rfl⟩) (vx_preV (P := PR X G A) hP hK (va_recv hK.1 hP (ci := 4) rfl (cw_r hr))) rfl rfl hl.1 rfl (lv_room (Nat.le_of_ble_eq_true rfl)) d_U_limitAt_2 ⟨Nat.zero_le _, Nat.zero_le _⟩) (fun r2 e2 => ?_)
  subst e2
  refine lv_if_eq (tgt := 17) hx hb d_U_limitAt_5 rfl (fun h5 => ?_) (fun h5 => ?_)
  ·
    have h5 := b2i_f h5
    refine lv_iconst (v := 0) hx hb d_U_limitAt_17 rfl ?_
    exact W.iret (v := 0) hx hb hrt (fun t ht hW => ⟨_, rfl, by rw [f_U_limitAt, if_neg (nt_of h5)], ht⟩) (fun q h => by cases h) d_U_limitAt_18
  ·
    have h5 := b2i_t h5
    refine lv_aload_n hx hb d_U_limitAt_8 rfl (lv_at hl 0 rfl) ?_
    refine va_get (D := X.1) (ci := 4) (C := R_Route) (T := F_Route) (N := 4) hx hb hts hin_Route hown hK.1 hP (8 + 4 * r) (cw_r hr) rfl 2 (by decide) (hts _ (wd_1 34 rfl rfl)) (fun _ h9 => h9) rfl d_U_limitAt_9 ?_
    refine lv_iload_n hx hb d_U_limitAt_12 rfl (lv_at hl 1 rfl) ?_
    refine va_iald hx hb hK.1 hP (11 + 4 * r) 0 (cw_rl hr) rfl (has_in hR h5) d_U_limitAt_13 ?_
    refine lv_goto (tgt := 18) hx hb d_U_limitAt_14 rfl ?_
    exact W.iret (v := nI (sA_lm A r x.toNatClampNeg)) hx hb hrt (fun t ht hW => ⟨_, rfl, by rw [f_U_limitAt, if_pos h5], ht⟩) (fun q h => by cases h) d_U_limitAt_18
abbrev rm_Y_leads : Room := { frames := 2, cells := 0, slots := 0, locals := 43 }
def f_Y_leads (A : St) (x : Int32) (g : Int32) (u : Int32) (v : Int32) : Bool :=
  oc (f_Y_routeOf x)
    (false)
    (fun i2 =>
      if (f_Y_isDown A u) then
        false
      else
        if (f_Y_isDown A v) then
          false
        else
          if (f_Y_isReach u v) then
            if (f_U_maskAt A i2 g) = 0 then
              (f_Y_isHomeward u v)
            else
              if 4 ≤ v then
                if v = 4 then
                  if ((f_U_maskAt A i2 g) &&& (f_Y_beyond u)) = 0 then
                    false
                  else
                    true
                else
                  false
              else
                if ((f_U_maskAt A i2 g) &&& ((1 : Int32) <<< (v &&& 31))) = 0 then
                  false
                else
                  true
          else
            false)
set_option maxRecDepth 20000 in
set_option maxHeartbeats 4000000 in
theorem c_Y_leads (l : Launch) (X : Xt) (G : Gc) (A : St) (x : Int32) (g : Int32) (u : Int32) (v : Int32) (hR : rOk A) : Met l y_Y_leads (Cond.code y_Y_leads b_Y_leads 7 (some .boolean) :: WA) rm_Y_leads (va_Pc [.ref (gA_ad G 1), .int x, .int g, .int u, .int v] (fun U => PR X G A U.heap ∧ KK X U)) (vp_Si (fun ans => ans = b2i (f_Y_leads A x g u v))) 0 0 (fun _ => False) := by
  refine vx_met (cc := b_Y_leads) (maxL := 7) (ret := (some .boolean)) (by decide) rfl (Nat.le_of_ble_eq_true rfl) ?_
  intro p e s m below meth c ls hx hb hrt hts hown hlocks hname hml hB hl
  obtain ⟨hP, hK⟩ := hB
  have hown : s.vm.findClass R_Ways = some m.cls := hown
  have hl : lv_has ls 7 [(0, .ref (gA_ad G 1)), (1, .int x), (2, .int g), (3, .int u), (4, .int v)] := hl
  have hP : va_P X.1 classes (cw X G A) s.heap := hP
  refine lv_aload_n hx hb d_Y_leads_0 rfl (lv_at hl 0 rfl) ?_
  refine lv_iload_n hx hb d_Y_leads_1 rfl (lv_at hl 1 rfl) ?_
  refine va_csq (W.runV (As := [.int x]) (rest := []) ⟨hx, hb, hml, hown, hts⟩ (c_Y_routeOf l X G A x) (cwV 1 hts (gV (wd_1 188 rfl rfl) (wd_1 115 rfl rfl) (wd_1 116 rfl rfl) (wd_1 2 rfl rfl) (wd_1 117 rfl rfl)) rfl rfl rfl ⟨rfl, hd_Y_routeOf⟩ ⟨Nat.le_of_ble_eq_true rfl, Nat.le_of_ble_eq_true rfl⟩) (vx_preV (P := PR X G A) hP hK (va_recv hK.1 hP (ci := 1) rfl cw_1)) rfl rfl hl.1 rfl (lv_room (Nat.le_of_ble_eq_true rfl)) d_Y_leads_2 ⟨Nat.zero_le _, Nat.zero_le _⟩) (fun r2 e2 => ?_)
  cases q2 : f_Y_routeOf x with
  | none =>
    have e2 : r2 = none := by rw [e2, q2]; rfl
    subst e2
    refine lv_astoreN (lv' := [(5, .null), (0, .ref (gA_ad G 1)), (1, .int x), (2, .int g), (3, .int u), (4, .int v)]) hx hb d_Y_leads_5 hl (by decide) rfl (fun ls hl => ?_)
    refine lv_aloadN hx hb d_Y_leads_7 (lv_at hl 0 rfl) ?_
    refine lv_ifnullN (tgt := 38) hx hb d_Y_leads_9 rfl ?_
    refine lv_iconst (v := 0) hx hb d_Y_leads_38 rfl ?_
    exact W.zret (v := b2i false) hx hb hrt (b2i_nar _) (fun t ht hW => ⟨_, rfl, by rw [f_Y_leads, oc_none q2], ht⟩) (fun q h => by cases h) d_Y_leads_39
  | some i2 =>
    have e2 : r2 = some (gA_ad G (8 + 4 * i2)) := by rw [e2, q2]; rfl
    subst e2
    have hli2 := routeOf_lt q2
    refine lv_astore (lv' := [(5, .ref (gA_ad G (8 + 4 * i2))), (0, .ref (gA_ad G 1)), (1, .int x), (2, .int g), (3, .int u), (4, .int v)]) hx hb d_Y_leads_5 hl (by decide) rfl (fun ls hl => ?_)
    refine lv_aload hx hb d_Y_leads_7 (lv_at hl 0 rfl) ?_
    refine lv_ifnull hx hb d_Y_leads_9 ?_
    refine lv_aload_n hx hb d_Y_leads_12 rfl (lv_at hl 1 rfl) ?_
    refine lv_iload_n hx hb d_Y_leads_13 rfl (lv_at hl 4 rfl) ?_
    refine vp_callSi (W.runV (As := [.int u]) (rest := []) ⟨hx, hb, hml, hown, hts⟩ (c_Y_isDown l X G A u) (cwV 1 hts (gV (wd_1 189 rfl rfl) (wd_1 190 rfl rfl) (wd_1 191 rfl rfl) (wd_1 2 rfl rfl) (wd_1 192 rfl rfl)) rfl rfl rfl ⟨rfl, hd_Y_isDown⟩ ⟨Nat.le_of_ble_eq_true rfl, Nat.le_of_ble_eq_true rfl⟩) (vx_preV (P := PR X G A) hP hK (va_recv hK.1 hP (ci := 1) rfl cw_1)) rfl rfl hl.1 rfl (lv_room (Nat.le_of_ble_eq_true rfl)) d_Y_leads_14 ⟨Nat.zero_le _, Nat.zero_le _⟩) (fun r14 e14 => ?_)
    subst e14
    refine lv_if_ne (tgt := 38) hx hb d_Y_leads_17 rfl (fun h17 => ?_) (fun h17 => ?_)
    ·
      have h17 := b2i_t h17
      refine lv_iconst (v := 0) hx hb d_Y_leads_38 rfl ?_
      exact W.zret (v := b2i false) hx hb hrt (b2i_nar _) (fun t ht hW => ⟨_, rfl, by rw [f_Y_leads, oc_some q2, if_pos h17], ht⟩) (fun q h => by cases h) d_Y_leads_39
    ·
      have h17 := b2i_f h17
      refine lv_aload_n hx hb d_Y_leads_20 rfl (lv_at hl 1 rfl) ?_
      refine lv_iload hx hb d_Y_leads_21 (lv_at hl 5 rfl) ?_
      refine vp_callSi (W.runV (As := [.int v]) (rest := []) ⟨hx, hb, hml, hown, hts⟩ (c_Y_isDown l X G A v) (cwV 1 hts (gV (wd_1 189 rfl rfl) (wd_1 190 rfl rfl) (wd_1 191 rfl rfl) (wd_1 2 rfl rfl) (wd_1 192 rfl rfl)) rfl rfl rfl ⟨rfl, hd_Y_isDown⟩ ⟨Nat.le_of_ble_eq_true rfl, Nat.le_of_ble_eq_true rfl⟩) (vx_preV (P := PR X G A) hP hK (va_recv hK.1 hP (ci := 1) rfl cw_1)) rfl rfl hl.1 rfl (lv_room (Nat.le_of_ble_eq_true rfl)) d_Y_leads_23 ⟨Nat.zero_le _, Nat.zero_le _⟩) (fun r23 e23 => ?_)
      subst e23
      refine lv_if_ne (tgt := 38) hx hb d_Y_leads_26 rfl (fun h26 => ?_) (fun h26 => ?_)
      ·
        have h26 := b2i_t h26
        refine lv_iconst (v := 0) hx hb d_Y_leads_38 rfl ?_
        exact W.zret (v := b2i false) hx hb hrt (b2i_nar _) (fun t ht hW => ⟨_, rfl, by rw [f_Y_leads, oc_some q2, if_neg (nt_of h17), if_pos h26], ht⟩) (fun q h => by cases h) d_Y_leads_39
      ·
        have h26 := b2i_f h26
        refine lv_iload_n hx hb d_Y_leads_29 rfl (lv_at hl 4 rfl) ?_
        refine lv_iload hx hb d_Y_leads_30 (lv_at hl 5 rfl) ?_
        refine vp_callSi (W.runS (As := [.int u, .int v]) (rest := []) ⟨hx, hb, hml, hown, hts⟩ (c_Y_isReach l X u v) (va_cwS 2 hts (gT (wd_1 193 rfl rfl) (wd_1 194 rfl rfl) (wd_1 2 rfl rfl) (wd_1 195 rfl rfl)) rfl rfl rfl hd_Y_isReach ⟨Nat.le_of_ble_eq_true rfl, Nat.le_of_ble_eq_true rfl⟩) (vx_preS (P := fun _ => True) trivial hK) rfl rfl hl.1 rfl (lv_room (Nat.le_of_ble_eq_true rfl)) d_Y_leads_32 ⟨Nat.zero_le _, Nat.zero_le _⟩) (fun r32 e32 => ?_)
        subst e32
        refine lv_if_ne (tgt := 40) hx hb d_Y_leads_35 rfl (fun h35 => ?_) (fun h35 => ?_)
        ·
          have h35 := b2i_t h35
          refine lv_aload hx hb d_Y_leads_40 (lv_at hl 0 rfl) ?_
          refine lv_iload_n hx hb d_Y_leads_42 rfl (lv_at hl 3 rfl) ?_
          refine vp_callSi (W.runV (As := [.int g]) (rest := []) ⟨hx, hb, hml, hown, hts⟩ (c_U_maskAt l X G A i2 hli2 g hR) (cwV 1 hts (gV (wd_1 196 rfl rfl) (wd_1 197 rfl rfl) (wd_1 198 rfl rfl) (wd_1 3 rfl rfl) (wd_1 199 rfl rfl)) rfl rfl rfl ⟨rfl, hd_U_maskAt⟩ ⟨Nat.le_of_ble_eq_true rfl, Nat.le_of_ble_eq_true rfl⟩) (vx_preV (P := PR X G A) hP hK (va_recv hK.1 hP (ci := 4) rfl (cw_r hli2))) rfl rfl hl.1 rfl (lv_room (Nat.le_of_ble_eq_true rfl)) d_Y_leads_43 ⟨Nat.zero_le _, Nat.zero_le _⟩) (fun r43 e43 => ?_)
          subst e43
          refine lv_istore (lv' := [(6, .int (f_U_maskAt A i2 g)), (5, .ref (gA_ad G (8 + 4 * i2))), (0, .ref (gA_ad G 1)), (1, .int x), (2, .int g), (3, .int u), (4, .int v)]) hx hb d_Y_leads_46 hl (by decide) rfl (fun ls hl => ?_)
          refine lv_iload hx hb d_Y_leads_48 (lv_at hl 0 rfl) ?_
          refine lv_if_ne (tgt := 60) hx hb d_Y_leads_50 rfl (fun h50 => ?_) (fun h50 => ?_)
          ·
            refine lv_iload hx hb d_Y_leads_60 (lv_at hl 6 rfl) ?_
            refine lv_iconst (v := 4) hx hb d_Y_leads_62 rfl ?_
            refine lv_icmp_ge (tgt := 82) hx hb d_Y_leads_63 rfl (fun h63 => ?_) (fun h63 => ?_)
            ·
              refine lv_iload hx hb d_Y_leads_82 (lv_at hl 6 rfl) ?_
              refine lv_iconst (v := 4) hx hb d_Y_leads_84 rfl ?_
              refine lv_icmp_ne (tgt := 102) hx hb d_Y_leads_85 rfl (fun h85 => ?_) (fun h85 => ?_)
              ·
                refine lv_iconst (v := 0) hx hb d_Y_leads_102 rfl ?_
                exact W.zret (v := b2i false) hx hb hrt (b2i_nar _) (fun t ht hW => ⟨_, rfl, by rw [f_Y_leads, oc_some q2, if_neg (nt_of h17), if_neg (nt_of h26), if_pos h35, if_neg h50, if_pos h63, if_neg h85], ht⟩) (fun q h => by cases h) d_Y_leads_103
              ·
                refine lv_iload hx hb d_Y_leads_88 (lv_at hl 0 rfl) ?_
                refine lv_iload_n hx hb d_Y_leads_90 rfl (lv_at hl 5 rfl) ?_
                refine vp_callSi (W.runS (As := [.int u]) (rest := [.int (f_U_maskAt A i2 g)]) ⟨hx, hb, hml, hown, hts⟩ (c_Y_beyond l X u) (va_cwS 1 hts (gT (wd_1 210 rfl rfl) (wd_1 211 rfl rfl) (wd_1 2 rfl rfl) (wd_1 212 rfl rfl)) rfl rfl rfl hd_Y_beyond ⟨Nat.le_of_ble_eq_true rfl, Nat.le_of_ble_eq_true rfl⟩) (vx_preS (P := fun _ => True) trivial hK) rfl rfl hl.1 rfl (lv_room (Nat.le_of_ble_eq_true rfl)) d_Y_leads_91 ⟨Nat.zero_le _, Nat.zero_le _⟩) (fun r91 e91 => ?_)
                subst e91
                refine lv_iand hx hb d_Y_leads_94 ?_
                refine lv_if_eq (tgt := 102) hx hb d_Y_leads_95 rfl (fun h95 => ?_) (fun h95 => ?_)
                ·
                  refine lv_iconst (v := 0) hx hb d_Y_leads_102 rfl ?_
                  exact W.zret (v := b2i false) hx hb hrt (b2i_nar _) (fun t ht hW => ⟨_, rfl, by rw [f_Y_leads, oc_some q2, if_neg (nt_of h17), if_neg (nt_of h26), if_pos h35, if_neg h50, if_pos h63, if_pos h85, if_pos h95], ht⟩) (fun q h => by cases h) d_Y_leads_103
                ·
                  refine lv_iconst (v := 1) hx hb d_Y_leads_98 rfl ?_
                  refine lv_goto (tgt := 103) hx hb d_Y_leads_99 rfl ?_
                  exact W.zret (v := b2i true) hx hb hrt (b2i_nar _) (fun t ht hW => ⟨_, rfl, by rw [f_Y_leads, oc_some q2, if_neg (nt_of h17), if_neg (nt_of h26), if_pos h35, if_neg h50, if_pos h63, if_pos h85, if_neg h95], ht⟩) (fun q h => by cases h) d_Y_leads_103
            ·
              refine lv_iload hx hb d_Y_leads_66 (lv_at hl 0 rfl) ?_
              refine lv_iconst (v := 1) hx hb d_Y_leads_68 rfl ?_
              refine lv_iload hx hb d_Y_leads_69 (lv_at hl 6 rfl) ?_
              refine lv_ishl hx hb d_Y_leads_71 ?_
              refine lv_iand hx hb d_Y_leads_72 ?_
              refine lv_if_eq (tgt := 80) hx hb d_Y_leads_73 rfl (fun h73 => ?_) (fun h73 => ?_)
              ·
                refine lv_iconst (v := 0) hx hb d_Y_leads_80 rfl ?_
                exact W.zret (v := b2i false) hx hb hrt (b2i_nar _) (fun t ht hW => ⟨_, rfl, by rw [f_Y_leads, oc_some q2, if_neg (nt_of h17), if_neg (nt_of h26), if_pos h35, if_neg h50, if_neg h63, if_pos h73], ht⟩) (fun q h => by cases h) d_Y_leads_81
              ·
                refine lv_iconst (v := 1) hx hb d_Y_leads_76 rfl ?_
                refine lv_goto (tgt := 81) hx hb d_Y_leads_77 rfl ?_
                exact W.zret (v := b2i true) hx hb hrt (b2i_nar _) (fun t ht hW => ⟨_, rfl, by rw [f_Y_leads, oc_some q2, if_neg (nt_of h17), if_neg (nt_of h26), if_pos h35, if_neg h50, if_neg h63, if_neg h73], ht⟩) (fun q h => by cases h) d_Y_leads_81
          ·
            refine lv_iload_n hx hb d_Y_leads_53 rfl (lv_at hl 5 rfl) ?_
            refine lv_iload hx hb d_Y_leads_54 (lv_at hl 6 rfl) ?_
            refine vp_callSi (W.runS (As := [.int u, .int v]) (rest := []) ⟨hx, hb, hml, hown, hts⟩ (c_Y_isHomeward l X u v) (va_cwS 2 hts (gT (wd_1 204 rfl rfl) (wd_1 205 rfl rfl) (wd_1 2 rfl rfl) (wd_1 206 rfl rfl)) rfl rfl rfl hd_Y_isHomeward ⟨Nat.le_of_ble_eq_true rfl, Nat.le_of_ble_eq_true rfl⟩) (vx_preS (P := fun _ => True) trivial hK) rfl rfl hl.1 rfl (lv_room (Nat.le_of_ble_eq_true rfl)) d_Y_leads_56 ⟨Nat.zero_le _, Nat.zero_le _⟩) (fun r56 e56 => ?_)
            subst e56
            exact W.zret (v := b2i (f_Y_isHomeward u v)) hx hb hrt (b2i_nar _) (fun t ht hW => ⟨_, rfl, by rw [f_Y_leads, oc_some q2, if_neg (nt_of h17), if_neg (nt_of h26), if_pos h35, if_pos h50], ht⟩) (fun q h => by cases h) d_Y_leads_59
        ·
          have h35 := b2i_f h35
          refine lv_iconst (v := 0) hx hb d_Y_leads_38 rfl ?_
          exact W.zret (v := b2i false) hx hb hrt (b2i_nar _) (fun t ht hW => ⟨_, rfl, by rw [f_Y_leads, oc_some q2, if_neg (nt_of h17), if_neg (nt_of h26), if_neg (nt_of h35)], ht⟩) (fun q h => by cases h) d_Y_leads_39
abbrev rm_T_limitOf : Room := { frames := 2, cells := 0, slots := 0, locals := 43 }
def f_T_limitOf (A : St) (i : Nat) : Int32 :=
  oc (f_Y_routeOf (nI (sA_rt A i)))
    (0)
    (fun i8 =>
      f_U_limitAt A i8 ((nI (sA_sg A i)) - 1))
set_option maxRecDepth 20000 in
set_option maxHeartbeats 4000000 in
theorem c_T_limitOf (l : Launch) (X : Xt) (G : Gc) (A : St) (i : Nat) (hi : i < sA_n A) (hR : rOk A) : Met l y_T_limitOf (Cond.code y_T_limitOf b_T_limitOf 3 (some .int) :: WA) rm_T_limitOf (va_Pc [.ref (gA_ad G 0), .ref (gA_ad G (18 + 4 * i))] (fun U => PR X G A U.heap ∧ KK X U)) (vp_Si (fun ans => ans = f_T_limitOf A i)) 0 0 (fun _ => False) := by
  refine vx_met (cc := b_T_limitOf) (maxL := 3) (ret := (some .int)) (by decide) rfl (Nat.le_of_ble_eq_true rfl) ?_
  intro p e s m below meth c ls hx hb hrt hts hown hlocks hname hml hB hl
  obtain ⟨hP, hK⟩ := hB
  have hown : s.vm.findClass R_ClusterTool = some m.cls := hown
  have hl : lv_has ls 3 [(0, .ref (gA_ad G 0)), (1, .ref (gA_ad G (18 + 4 * i)))] := hl
  have hP : va_P X.1 classes (cw X G A) s.heap := hP
  refine lv_aload_n hx hb d_T_limitOf_0 rfl (lv_at hl 0 rfl) ?_
  refine va_get (D := X.1) (ci := 0) (C := R_ClusterTool) (T := F_ClusterTool) (N := 8) hx hb hts hin_ClusterTool hown hK.1 hP 0 cw_0 rfl 0 (by decide) (hts _ (wd_1 85 rfl rfl)) (fun _ h9 => h9) rfl d_T_limitOf_1 ?_
  refine lv_aload_n hx hb d_T_limitOf_4 rfl (lv_at hl 1 rfl) ?_
  refine va_getN (D := X.1) (ci := 5) (C := R_Wafer) (T := F_Wafer) (N := 10) hx hb hts hin_Wafer hown hK.1 hP (18 + 4 * i) (cw_w hi) rfl 0 (by decide) (va_Nw.use rfl (hK.2.1 _ (List.mem_of_getElem? (i := 8) rfl))) (fun _ h9 => h9) rfl d_T_limitOf_5 ?_
  refine va_csq (W.runV (As := [.int (nI (sA_rt A i))]) (rest := []) ⟨hx, hb, hml, hown, hts⟩ (c_Y_routeOf l X G A (nI (sA_rt A i))) (cwV 1 hts (gV (wd_1 114 rfl rfl) (wd_1 115 rfl rfl) (wd_1 116 rfl rfl) (wd_1 2 rfl rfl) (wd_1 117 rfl rfl)) rfl rfl rfl ⟨rfl, hd_Y_routeOf⟩ ⟨Nat.le_of_ble_eq_true rfl, Nat.le_of_ble_eq_true rfl⟩) (vx_preV (P := PR X G A) hP hK (va_recv hK.1 hP (ci := 1) rfl cw_1)) rfl rfl hl.1 rfl (lv_room (Nat.le_of_ble_eq_true rfl)) d_T_limitOf_8 ⟨Nat.zero_le _, Nat.zero_le _⟩) (fun r8 e8 => ?_)
  cases q8 : f_Y_routeOf (nI (sA_rt A i)) with
  | none =>
    have e8 : r8 = none := by rw [e8, q8]; rfl
    subst e8
    refine lv_astore_nN (lv' := [(2, .null), (0, .ref (gA_ad G 0)), (1, .ref (gA_ad G (18 + 4 * i)))]) hx hb d_T_limitOf_11 rfl hl (by decide) rfl (fun ls hl => ?_)
    refine lv_aload_nN hx hb d_T_limitOf_12 rfl (lv_at hl 0 rfl) ?_
    refine lv_ifnonnullN hx hb d_T_limitOf_13 ?_
    refine lv_iconst (v := 0) hx hb d_T_limitOf_16 rfl ?_
    refine lv_goto (tgt := 30) hx hb d_T_limitOf_17 rfl ?_
    exact W.iret (v := 0) hx hb hrt (fun t ht hW => ⟨_, rfl, by rw [f_T_limitOf, oc_none q8], ht⟩) (fun q h => by cases h) d_T_limitOf_30
  | some i8 =>
    have e8 : r8 = some (gA_ad G (8 + 4 * i8)) := by rw [e8, q8]; rfl
    subst e8
    have hli8 := routeOf_lt q8
    refine lv_astore_n (lv' := [(2, .ref (gA_ad G (8 + 4 * i8))), (0, .ref (gA_ad G 0)), (1, .ref (gA_ad G (18 + 4 * i)))]) hx hb d_T_limitOf_11 rfl hl (by decide) rfl (fun ls hl => ?_)
    refine lv_aload_n hx hb d_T_limitOf_12 rfl (lv_at hl 0 rfl) ?_
    refine lv_ifnonnull (tgt := 20) hx hb d_T_limitOf_13 rfl ?_
    refine lv_aload_n hx hb d_T_limitOf_20 rfl (lv_at hl 0 rfl) ?_
    refine lv_aload_n hx hb d_T_limitOf_21 rfl (lv_at hl 2 rfl) ?_
    refine va_getN (D := X.1) (ci := 5) (C := R_Wafer) (T := F_Wafer) (N := 10) hx hb hts hin_Wafer hown hK.1 hP (18 + 4 * i) (cw_w hi) rfl 5 (by decide) (va_Nw.use rfl (hK.2.1 _ (List.mem_of_getElem? (i := 13) rfl))) (fun _ h9 => h9) rfl d_T_limitOf_22 ?_
    refine lv_iconst (v := 1) hx hb d_T_limitOf_25 rfl ?_
    refine lv_isub hx hb d_T_limitOf_26 ?_
    refine vp_callSi (W.runV (As := [.int ((nI (sA_sg A i)) - 1)]) (rest := []) ⟨hx, hb, hml, hown, hts⟩ (c_U_limitAt l X G A i8 hli8 ((nI (sA_sg A i)) - 1) hR) (cwV 1 hts (gV (wd_2 63 rfl rfl) (wd_2 64 rfl rfl) (wd_2 65 rfl rfl) (wd_1 3 rfl rfl) (wd_2 66 rfl rfl)) rfl rfl rfl ⟨rfl, hd_U_limitAt⟩ ⟨Nat.le_of_ble_eq_true rfl, Nat.le_of_ble_eq_true rfl⟩) (vx_preV (P := PR X G A) hP hK (va_recv hK.1 hP (ci := 4) rfl (cw_r hli8))) rfl rfl hl.1 rfl (lv_room (Nat.le_of_ble_eq_true rfl)) d_T_limitOf_27 ⟨Nat.zero_le _, Nat.zero_le _⟩) (fun r27 e27 => ?_)
    subst e27
    exact W.iret (v := f_U_limitAt A i8 ((nI (sA_sg A i)) - 1)) hx hb hrt (fun t ht hW => ⟨_, rfl, by rw [f_T_limitOf, oc_some q8], ht⟩) (fun q h => by cases h) d_T_limitOf_30
abbrev rm_T_isTaken : Room := { frames := 0, cells := 0, slots := 0, locals := 0 }
def f_T_isTaken (G : Gc) (A : St) (i : Nat) (q : Nat) : Bool :=
  if (nI q) = 5 then
    false
  else
    if (nI q) = (nI (sA_pl A i)) then
      false
    else
      if (gA_ins G q) = (-1) then
        false
      else
        true
set_option maxRecDepth 20000 in
set_option maxHeartbeats 4000000 in
theorem c_T_isTaken (l : Launch) (X : Xt) (G : Gc) (A : St) (i : Nat) (hi : i < sA_n A) (q : Nat) (hq : q < 6) : Met l y_T_isTaken (Cond.code y_T_isTaken b_T_isTaken 3 (some .boolean) :: WA) rm_T_isTaken (va_Pc [.ref (gA_ad G 0), .ref (gA_ad G (18 + 4 * i)), .int (nI q)] (fun U => PR X G A U.heap ∧ KK X U)) (vp_Si (fun ans => ans = b2i (f_T_isTaken G A i q))) 0 0 (fun _ => False) := by
  refine vx_met (cc := b_T_isTaken) (maxL := 3) (ret := (some .boolean)) (by decide) rfl (Nat.le_of_ble_eq_true rfl) ?_
  intro p e s m below meth c ls hx hb hrt hts hown hlocks hname hml hB hl
  obtain ⟨hP, hK⟩ := hB
  have hown : s.vm.findClass R_ClusterTool = some m.cls := hown
  have hl : lv_has ls 3 [(0, .ref (gA_ad G 0)), (1, .ref (gA_ad G (18 + 4 * i))), (2, .int (nI q))] := hl
  have hP : va_P X.1 classes (cw X G A) s.heap := hP
  refine lv_iload_n hx hb d_T_isTaken_0 rfl (lv_at hl 2 rfl) ?_
  refine lv_iconst (v := 5) hx hb d_T_isTaken_1 rfl ?_
  refine lv_icmp_eq (tgt := 27) hx hb d_T_isTaken_2 rfl (fun h2 => ?_) (fun h2 => ?_)
  ·
    refine lv_iconst (v := 0) hx hb d_T_isTaken_27 rfl ?_
    exact W.zret (v := b2i false) hx hb hrt (b2i_nar _) (fun t ht hW => ⟨_, rfl, by rw [f_T_isTaken, if_pos h2], ht⟩) (fun q h => by cases h) d_T_isTaken_28
  ·
    refine lv_iload_n hx hb d_T_isTaken_5 rfl (lv_at hl 2 rfl) ?_
    refine lv_aload_n hx hb d_T_isTaken_6 rfl (lv_at hl 1 rfl) ?_
    refine va_getN (D := X.1) (ci := 5) (C := R_Wafer) (T := F_Wafer) (N := 10) hx hb hts hin_Wafer hown hK.1 hP (18 + 4 * i) (cw_w hi) rfl 4 (by decide) (va_Nw.use rfl (hK.2.1 _ (List.mem_of_getElem? (i := 12) rfl))) (fun _ h9 => h9) rfl d_T_isTaken_7 ?_
    refine lv_icmp_eq (tgt := 27) hx hb d_T_isTaken_10 rfl (fun h10 => ?_) (fun h10 => ?_)
    ·
      refine lv_iconst (v := 0) hx hb d_T_isTaken_27 rfl ?_
      exact W.zret (v := b2i false) hx hb hrt (b2i_nar _) (fun t ht hW => ⟨_, rfl, by rw [f_T_isTaken, if_neg h2, if_pos h10], ht⟩) (fun q h => by cases h) d_T_isTaken_28
    ·
      refine lv_aload_n hx hb d_T_isTaken_13 rfl (lv_at hl 0 rfl) ?_
      refine va_get (D := X.1) (ci := 0) (C := R_ClusterTool) (T := F_ClusterTool) (N := 8) hx hb hts hin_ClusterTool hown hK.1 hP 0 cw_0 rfl 5 (by decide) (hts _ (wd_1 90 rfl rfl)) (fun _ h9 => h9) rfl d_T_isTaken_14 ?_
      refine lv_iload_n hx hb d_T_isTaken_17 rfl (lv_at hl 2 rfl) ?_
      refine va_iald hx hb hK.1 hP 6 0 cw_6 rfl (vp_in_nI (ne5 hq h2) (by omega)) d_T_isTaken_18 ?_
      rw [nI_clamp (n := q) (by omega)]
      refine lv_iconst (v := (-1)) hx hb d_T_isTaken_19 rfl ?_
      refine lv_icmp_eq (tgt := 27) hx hb d_T_isTaken_20 rfl (fun h20 => ?_) (fun h20 => ?_)
      ·
        refine lv_iconst (v := 0) hx hb d_T_isTaken_27 rfl ?_
        exact W.zret (v := b2i false) hx hb hrt (b2i_nar _) (fun t ht hW => ⟨_, rfl, by rw [f_T_isTaken, if_neg h2, if_neg h10, if_pos h20], ht⟩) (fun q h => by cases h) d_T_isTaken_28
      ·
        refine lv_iconst (v := 1) hx hb d_T_isTaken_23 rfl ?_
        refine lv_goto (tgt := 28) hx hb d_T_isTaken_24 rfl ?_
        exact W.zret (v := b2i true) hx hb hrt (b2i_nar _) (fun t ht hW => ⟨_, rfl, by rw [f_T_isTaken, if_neg h2, if_neg h10, if_neg h20], ht⟩) (fun q h => by cases h) d_T_isTaken_28
abbrev rm_T_robotFor : Room := { frames := 1, cells := 0, slots := 0, locals := 20 }
def f_T_robotFor (x : Int32) (y : Int32) : Option Nat :=
  if (f_Y_isBack x) then
    some 4
  else
    if (f_Y_isBack y) then
      some 4
    else
      some 3
set_option maxRecDepth 20000 in
set_option maxHeartbeats 4000000 in
theorem c_T_robotFor (l : Launch) (X : Xt) (G : Gc) (A : St) (x : Int32) (y : Int32) : Met l y_T_robotFor (Cond.code y_T_robotFor b_T_robotFor 3 (some (.object "ClusterTool$Robot")) :: WA) rm_T_robotFor (va_Pc [.ref (gA_ad G 0), .int x, .int y] (fun U => PR X G A U.heap ∧ KK X U)) (va_Sq (fun ans => ans = (f_T_robotFor x y).map (fun j => gA_ad G (j)))) 0 0 (fun _ => False) := by
  refine vx_met (cc := b_T_robotFor) (maxL := 3) (ret := (some (.object "ClusterTool$Robot"))) (by decide) rfl (Nat.le_of_ble_eq_true rfl) ?_
  intro p e s m below meth c ls hx hb hrt hts hown hlocks hname hml hB hl
  obtain ⟨hP, hK⟩ := hB
  have hown : s.vm.findClass R_ClusterTool = some m.cls := hown
  have hl : lv_has ls 3 [(0, .ref (gA_ad G 0)), (1, .int x), (2, .int y)] := hl
  have hP : va_P X.1 classes (cw X G A) s.heap := hP
  refine lv_iload_n hx hb d_T_robotFor_0 rfl (lv_at hl 1 rfl) ?_
  refine vp_callSi (W.runS (As := [.int x]) (rest := []) ⟨hx, hb, hml, hown, hts⟩ (c_Y_isBack l X x) (va_cwS 1 hts (gT (wd_2 21 rfl rfl) (wd_1 208 rfl rfl) (wd_1 2 rfl rfl) (wd_1 209 rfl rfl)) rfl rfl rfl hd_Y_isBack ⟨Nat.le_of_ble_eq_true rfl, Nat.le_of_ble_eq_true rfl⟩) (vx_preS (P := fun _ => True) trivial hK) rfl rfl hl.1 rfl (lv_room (Nat.le_of_ble_eq_true rfl)) d_T_robotFor_1 ⟨Nat.zero_le _, Nat.zero_le _⟩) (fun r1 e1 => ?_)
  subst e1
  refine lv_if_ne (tgt := 14) hx hb d_T_robotFor_4 rfl (fun h4 => ?_) (fun h4 => ?_)
  ·
    have h4 := b2i_t h4
    refine lv_aload_n hx hb d_T_robotFor_14 rfl (lv_at hl 0 rfl) ?_
    refine va_get (D := X.1) (ci := 0) (C := R_ClusterTool) (T := F_ClusterTool) (N := 8) hx hb hts hin_ClusterTool hown hK.1 hP 0 cw_0 rfl 3 (by decide) (hts _ (wd_1 88 rfl rfl)) (fun _ h9 => h9) rfl d_T_robotFor_15 ?_
    refine lv_goto (tgt := 25) hx hb d_T_robotFor_18 rfl ?_
    exact W.aret (v := va_rf (some (gA_ad G 4))) hx hb hrt (Or.inl ⟨_, rfl⟩) (Or.inr ⟨_, rfl⟩) (fun t ht hW => ⟨_, rfl, by rw [f_T_robotFor, if_pos h4]; rfl, ht⟩) (fun q h => by cases h) d_T_robotFor_25
  ·
    have h4 := b2i_f h4
    refine lv_iload_n hx hb d_T_robotFor_7 rfl (lv_at hl 2 rfl) ?_
    refine vp_callSi (W.runS (As := [.int y]) (rest := []) ⟨hx, hb, hml, hown, hts⟩ (c_Y_isBack l X y) (va_cwS 1 hts (gT (wd_2 21 rfl rfl) (wd_1 208 rfl rfl) (wd_1 2 rfl rfl) (wd_1 209 rfl rfl)) rfl rfl rfl hd_Y_isBack ⟨Nat.le_of_ble_eq_true rfl, Nat.le_of_ble_eq_true rfl⟩) (vx_preS (P := fun _ => True) trivial hK) rfl rfl hl.1 rfl (lv_room (Nat.le_of_ble_eq_true rfl)) d_T_robotFor_8 ⟨Nat.zero_le _, Nat.zero_le _⟩) (fun r8 e8 => ?_)
    subst e8
    refine lv_if_eq (tgt := 21) hx hb d_T_robotFor_11 rfl (fun h11 => ?_) (fun h11 => ?_)
    ·
      have h11 := b2i_f h11
      refine lv_aload_n hx hb d_T_robotFor_21 rfl (lv_at hl 0 rfl) ?_
      refine va_get (D := X.1) (ci := 0) (C := R_ClusterTool) (T := F_ClusterTool) (N := 8) hx hb hts hin_ClusterTool hown hK.1 hP 0 cw_0 rfl 2 (by decide) (hts _ (wd_1 87 rfl rfl)) (fun _ h9 => h9) rfl d_T_robotFor_22 ?_
      exact W.aret (v := va_rf (some (gA_ad G 3))) hx hb hrt (Or.inl ⟨_, rfl⟩) (Or.inr ⟨_, rfl⟩) (fun t ht hW => ⟨_, rfl, by rw [f_T_robotFor, if_neg (nt_of h4), if_neg (nt_of h11)]; rfl, ht⟩) (fun q h => by cases h) d_T_robotFor_25
    ·
      have h11 := b2i_t h11
      refine lv_aload_n hx hb d_T_robotFor_14 rfl (lv_at hl 0 rfl) ?_
      refine va_get (D := X.1) (ci := 0) (C := R_ClusterTool) (T := F_ClusterTool) (N := 8) hx hb hts hin_ClusterTool hown hK.1 hP 0 cw_0 rfl 3 (by decide) (hts _ (wd_1 88 rfl rfl)) (fun _ h9 => h9) rfl d_T_robotFor_15 ?_
      refine lv_goto (tgt := 25) hx hb d_T_robotFor_18 rfl ?_
      exact W.aret (v := va_rf (some (gA_ad G 4))) hx hb hrt (Or.inl ⟨_, rfl⟩) (Or.inr ⟨_, rfl⟩) (fun t ht hW => ⟨_, rfl, by rw [f_T_robotFor, if_neg (nt_of h4), if_pos h11]; rfl, ht⟩) (fun q h => by cases h) d_T_robotFor_25
abbrev rm_T_place : Room := { frames := 2, cells := 0, slots := 0, locals := 43 }
def f_T_place (A : St) (x : Int32) : Int32 :=
  oc (f_T_waferOf A x)
    ((-1))
    (fun i2 =>
      nI (sA_pl A i2))
set_option maxRecDepth 20000 in
set_option maxHeartbeats 4000000 in
theorem c_T_place (l : Launch) (X : Xt) (G : Gc) (A : St) (x : Int32) (hI : Inv A) : Met l y_T_place (Cond.code y_T_place b_T_place 3 (some .int) :: WA) rm_T_place (va_Pc [.ref (gA_ad G 0), .int x] (fun U => PR X G A U.heap ∧ KK X U)) (vp_Si (fun ans => ans = f_T_place A x)) 0 0 (fun _ => False) := by
  refine vx_met (cc := b_T_place) (maxL := 3) (ret := (some .int)) (by decide) rfl (Nat.le_of_ble_eq_true rfl) ?_
  intro p e s m below meth c ls hx hb hrt hts hown hlocks hname hml hB hl
  obtain ⟨hP, hK⟩ := hB
  have hown : s.vm.findClass R_ClusterTool = some m.cls := hown
  have hl : lv_has ls 3 [(0, .ref (gA_ad G 0)), (1, .int x)] := hl
  have hP : va_P X.1 classes (cw X G A) s.heap := hP
  have hn := hI.1
  have hR := hI.2.1
  refine lv_aload_n hx hb d_T_place_0 rfl (lv_at hl 0 rfl) ?_
  refine lv_iload_n hx hb d_T_place_1 rfl (lv_at hl 1 rfl) ?_
  refine va_csq (W.runV (As := [.int x]) (rest := []) ⟨hx, hb, hml, hown, hts⟩ (c_T_waferOf l X G A x hn) (cwV 1 hts (gV (wd_1 180 rfl rfl) (wd_1 182 rfl rfl) (wd_s 0 rfl) (wd_1 1 rfl rfl) (wd_1 183 rfl rfl)) rfl rfl rfl ⟨rfl, hd_T_waferOf⟩ ⟨Nat.le_of_ble_eq_true rfl, Nat.le_of_ble_eq_true rfl⟩) (vx_preV (P := PR X G A) hP hK (va_recv hK.1 hP (ci := 0) rfl cw_0)) rfl rfl hl.1 rfl (lv_room (Nat.le_of_ble_eq_true rfl)) d_T_place_2 ⟨Nat.zero_le _, Nat.zero_le _⟩) (fun r2 e2 => ?_)
  cases q2 : f_T_waferOf A x with
  | none =>
    have e2 : r2 = none := by rw [e2, q2]; rfl
    subst e2
    refine lv_astore_nN (lv' := [(2, .null), (0, .ref (gA_ad G 0)), (1, .int x)]) hx hb d_T_place_5 rfl hl (by decide) rfl (fun ls hl => ?_)
    refine lv_aload_nN hx hb d_T_place_6 rfl (lv_at hl 0 rfl) ?_
    refine lv_ifnonnullN hx hb d_T_place_7 ?_
    refine lv_iconst (v := (-1)) hx hb d_T_place_10 rfl ?_
    refine lv_goto (tgt := 18) hx hb d_T_place_11 rfl ?_
    exact W.iret (v := (-1)) hx hb hrt (fun t ht hW => ⟨_, rfl, by rw [f_T_place, oc_none q2], ht⟩) (fun q h => by cases h) d_T_place_18
  | some i2 =>
    have e2 : r2 = some (gA_ad G (18 + 4 * i2)) := by rw [e2, q2]; rfl
    subst e2
    have hli2 := waferOf_lt hn q2
    refine lv_astore_n (lv' := [(2, .ref (gA_ad G (18 + 4 * i2))), (0, .ref (gA_ad G 0)), (1, .int x)]) hx hb d_T_place_5 rfl hl (by decide) rfl (fun ls hl => ?_)
    refine lv_aload_n hx hb d_T_place_6 rfl (lv_at hl 0 rfl) ?_
    refine lv_ifnonnull (tgt := 14) hx hb d_T_place_7 rfl ?_
    refine lv_aload_n hx hb d_T_place_14 rfl (lv_at hl 0 rfl) ?_
    refine va_getN (D := X.1) (ci := 5) (C := R_Wafer) (T := F_Wafer) (N := 10) hx hb hts hin_Wafer hown hK.1 hP (18 + 4 * i2) (cw_w hli2) rfl 4 (by decide) (va_Nw.use rfl (hK.2.1 _ (List.mem_of_getElem? (i := 12) rfl))) (fun _ h9 => h9) rfl d_T_place_15 ?_
    exact W.iret (v := nI (sA_pl A i2)) hx hb hrt (fun t ht hW => ⟨_, rfl, by rw [f_T_place, oc_some q2], ht⟩) (fun q h => by cases h) d_T_place_18
abbrev rm_T_stage : Room := { frames := 2, cells := 0, slots := 0, locals := 43 }
def f_T_stage (A : St) (x : Int32) : Int32 :=
  oc (f_T_waferOf A x)
    ((-1))
    (fun i2 =>
      nI (sA_sg A i2))
set_option maxRecDepth 20000 in
set_option maxHeartbeats 4000000 in
theorem c_T_stage (l : Launch) (X : Xt) (G : Gc) (A : St) (x : Int32) (hI : Inv A) : Met l y_T_stage (Cond.code y_T_stage b_T_stage 3 (some .int) :: WA) rm_T_stage (va_Pc [.ref (gA_ad G 0), .int x] (fun U => PR X G A U.heap ∧ KK X U)) (vp_Si (fun ans => ans = f_T_stage A x)) 0 0 (fun _ => False) := by
  refine vx_met (cc := b_T_stage) (maxL := 3) (ret := (some .int)) (by decide) rfl (Nat.le_of_ble_eq_true rfl) ?_
  intro p e s m below meth c ls hx hb hrt hts hown hlocks hname hml hB hl
  obtain ⟨hP, hK⟩ := hB
  have hown : s.vm.findClass R_ClusterTool = some m.cls := hown
  have hl : lv_has ls 3 [(0, .ref (gA_ad G 0)), (1, .int x)] := hl
  have hP : va_P X.1 classes (cw X G A) s.heap := hP
  have hn := hI.1
  have hR := hI.2.1
  refine lv_aload_n hx hb d_T_stage_0 rfl (lv_at hl 0 rfl) ?_
  refine lv_iload_n hx hb d_T_stage_1 rfl (lv_at hl 1 rfl) ?_
  refine va_csq (W.runV (As := [.int x]) (rest := []) ⟨hx, hb, hml, hown, hts⟩ (c_T_waferOf l X G A x hn) (cwV 1 hts (gV (wd_1 180 rfl rfl) (wd_1 182 rfl rfl) (wd_s 0 rfl) (wd_1 1 rfl rfl) (wd_1 183 rfl rfl)) rfl rfl rfl ⟨rfl, hd_T_waferOf⟩ ⟨Nat.le_of_ble_eq_true rfl, Nat.le_of_ble_eq_true rfl⟩) (vx_preV (P := PR X G A) hP hK (va_recv hK.1 hP (ci := 0) rfl cw_0)) rfl rfl hl.1 rfl (lv_room (Nat.le_of_ble_eq_true rfl)) d_T_stage_2 ⟨Nat.zero_le _, Nat.zero_le _⟩) (fun r2 e2 => ?_)
  cases q2 : f_T_waferOf A x with
  | none =>
    have e2 : r2 = none := by rw [e2, q2]; rfl
    subst e2
    refine lv_astore_nN (lv' := [(2, .null), (0, .ref (gA_ad G 0)), (1, .int x)]) hx hb d_T_stage_5 rfl hl (by decide) rfl (fun ls hl => ?_)
    refine lv_aload_nN hx hb d_T_stage_6 rfl (lv_at hl 0 rfl) ?_
    refine lv_ifnonnullN hx hb d_T_stage_7 ?_
    refine lv_iconst (v := (-1)) hx hb d_T_stage_10 rfl ?_
    refine lv_goto (tgt := 18) hx hb d_T_stage_11 rfl ?_
    exact W.iret (v := (-1)) hx hb hrt (fun t ht hW => ⟨_, rfl, by rw [f_T_stage, oc_none q2], ht⟩) (fun q h => by cases h) d_T_stage_18
  | some i2 =>
    have e2 : r2 = some (gA_ad G (18 + 4 * i2)) := by rw [e2, q2]; rfl
    subst e2
    have hli2 := waferOf_lt hn q2
    refine lv_astore_n (lv' := [(2, .ref (gA_ad G (18 + 4 * i2))), (0, .ref (gA_ad G 0)), (1, .int x)]) hx hb d_T_stage_5 rfl hl (by decide) rfl (fun ls hl => ?_)
    refine lv_aload_n hx hb d_T_stage_6 rfl (lv_at hl 0 rfl) ?_
    refine lv_ifnonnull (tgt := 14) hx hb d_T_stage_7 rfl ?_
    refine lv_aload_n hx hb d_T_stage_14 rfl (lv_at hl 0 rfl) ?_
    refine va_getN (D := X.1) (ci := 5) (C := R_Wafer) (T := F_Wafer) (N := 10) hx hb hts hin_Wafer hown hK.1 hP (18 + 4 * i2) (cw_w hli2) rfl 5 (by decide) (va_Nw.use rfl (hK.2.1 _ (List.mem_of_getElem? (i := 13) rfl))) (fun _ h9 => h9) rfl d_T_stage_15 ?_
    exact W.iret (v := nI (sA_sg A i2)) hx hb hrt (fun t ht hW => ⟨_, rfl, by rw [f_T_stage, oc_some q2], ht⟩) (fun q h => by cases h) d_T_stage_18
abbrev rm_T_left : Room := { frames := 2, cells := 0, slots := 0, locals := 43 }
def f_T_left (A : St) (x : Int32) : Int32 :=
  oc (f_T_waferOf A x)
    ((-1))
    (fun i2 =>
      nI (sA_lf A i2))
set_option maxRecDepth 20000 in
set_option maxHeartbeats 4000000 in
theorem c_T_left (l : Launch) (X : Xt) (G : Gc) (A : St) (x : Int32) (hI : Inv A) : Met l y_T_left (Cond.code y_T_left b_T_left 3 (some .int) :: WA) rm_T_left (va_Pc [.ref (gA_ad G 0), .int x] (fun U => PR X G A U.heap ∧ KK X U)) (vp_Si (fun ans => ans = f_T_left A x)) 0 0 (fun _ => False) := by
  refine vx_met (cc := b_T_left) (maxL := 3) (ret := (some .int)) (by decide) rfl (Nat.le_of_ble_eq_true rfl) ?_
  intro p e s m below meth c ls hx hb hrt hts hown hlocks hname hml hB hl
  obtain ⟨hP, hK⟩ := hB
  have hown : s.vm.findClass R_ClusterTool = some m.cls := hown
  have hl : lv_has ls 3 [(0, .ref (gA_ad G 0)), (1, .int x)] := hl
  have hP : va_P X.1 classes (cw X G A) s.heap := hP
  have hn := hI.1
  have hR := hI.2.1
  refine lv_aload_n hx hb d_T_left_0 rfl (lv_at hl 0 rfl) ?_
  refine lv_iload_n hx hb d_T_left_1 rfl (lv_at hl 1 rfl) ?_
  refine va_csq (W.runV (As := [.int x]) (rest := []) ⟨hx, hb, hml, hown, hts⟩ (c_T_waferOf l X G A x hn) (cwV 1 hts (gV (wd_1 180 rfl rfl) (wd_1 182 rfl rfl) (wd_s 0 rfl) (wd_1 1 rfl rfl) (wd_1 183 rfl rfl)) rfl rfl rfl ⟨rfl, hd_T_waferOf⟩ ⟨Nat.le_of_ble_eq_true rfl, Nat.le_of_ble_eq_true rfl⟩) (vx_preV (P := PR X G A) hP hK (va_recv hK.1 hP (ci := 0) rfl cw_0)) rfl rfl hl.1 rfl (lv_room (Nat.le_of_ble_eq_true rfl)) d_T_left_2 ⟨Nat.zero_le _, Nat.zero_le _⟩) (fun r2 e2 => ?_)
  cases q2 : f_T_waferOf A x with
  | none =>
    have e2 : r2 = none := by rw [e2, q2]; rfl
    subst e2
    refine lv_astore_nN (lv' := [(2, .null), (0, .ref (gA_ad G 0)), (1, .int x)]) hx hb d_T_left_5 rfl hl (by decide) rfl (fun ls hl => ?_)
    refine lv_aload_nN hx hb d_T_left_6 rfl (lv_at hl 0 rfl) ?_
    refine lv_ifnonnullN hx hb d_T_left_7 ?_
    refine lv_iconst (v := (-1)) hx hb d_T_left_10 rfl ?_
    refine lv_goto (tgt := 18) hx hb d_T_left_11 rfl ?_
    exact W.iret (v := (-1)) hx hb hrt (fun t ht hW => ⟨_, rfl, by rw [f_T_left, oc_none q2], ht⟩) (fun q h => by cases h) d_T_left_18
  | some i2 =>
    have e2 : r2 = some (gA_ad G (18 + 4 * i2)) := by rw [e2, q2]; rfl
    subst e2
    have hli2 := waferOf_lt hn q2
    refine lv_astore_n (lv' := [(2, .ref (gA_ad G (18 + 4 * i2))), (0, .ref (gA_ad G 0)), (1, .int x)]) hx hb d_T_left_5 rfl hl (by decide) rfl (fun ls hl => ?_)
    refine lv_aload_n hx hb d_T_left_6 rfl (lv_at hl 0 rfl) ?_
    refine lv_ifnonnull (tgt := 14) hx hb d_T_left_7 rfl ?_
    refine lv_aload_n hx hb d_T_left_14 rfl (lv_at hl 0 rfl) ?_
    refine va_getN (D := X.1) (ci := 5) (C := R_Wafer) (T := F_Wafer) (N := 10) hx hb hts hin_Wafer hown hK.1 hP (18 + 4 * i2) (cw_w hli2) rfl 6 (by decide) (va_Nw.use rfl (hK.2.1 _ (List.mem_of_getElem? (i := 14) rfl))) (fun _ h9 => h9) rfl d_T_left_15 ?_
    exact W.iret (v := nI (sA_lf A i2)) hx hb hrt (fun t ht hW => ⟨_, rfl, by rw [f_T_left, oc_some q2], ht⟩) (fun q h => by cases h) d_T_left_18
abbrev rm_T_visited : Room := { frames := 2, cells := 0, slots := 0, locals := 43 }
def f_T_visited (A : St) (x : Int32) (y : Int32) : Int32 :=
  oc (f_T_waferOf A x)
    ((-1))
    (fun i2 =>
      if (f_W_hasBegun A i2 y) then
        sA_ch A i2 y.toNatClampNeg
      else
        (-1))
set_option maxRecDepth 20000 in
set_option maxHeartbeats 4000000 in
theorem c_T_visited (l : Launch) (X : Xt) (G : Gc) (A : St) (x : Int32) (y : Int32) (hI : Inv A) : Met l y_T_visited (Cond.code y_T_visited b_T_visited 4 (some .int) :: WA) rm_T_visited (va_Pc [.ref (gA_ad G 0), .int x, .int y] (fun U => PR X G A U.heap ∧ KK X U)) (vp_Si (fun ans => ans = f_T_visited A x y)) 0 0 (fun _ => False) := by
  refine vx_met (cc := b_T_visited) (maxL := 4) (ret := (some .int)) (by decide) rfl (Nat.le_of_ble_eq_true rfl) ?_
  intro p e s m below meth c ls hx hb hrt hts hown hlocks hname hml hB hl
  obtain ⟨hP, hK⟩ := hB
  have hown : s.vm.findClass R_ClusterTool = some m.cls := hown
  have hl : lv_has ls 4 [(0, .ref (gA_ad G 0)), (1, .int x), (2, .int y)] := hl
  have hP : va_P X.1 classes (cw X G A) s.heap := hP
  have hn := hI.1
  have hR := hI.2.1
  refine lv_aload_n hx hb d_T_visited_0 rfl (lv_at hl 0 rfl) ?_
  refine lv_iload_n hx hb d_T_visited_1 rfl (lv_at hl 1 rfl) ?_
  refine va_csq (W.runV (As := [.int x]) (rest := []) ⟨hx, hb, hml, hown, hts⟩ (c_T_waferOf l X G A x hn) (cwV 1 hts (gV (wd_1 180 rfl rfl) (wd_1 182 rfl rfl) (wd_s 0 rfl) (wd_1 1 rfl rfl) (wd_1 183 rfl rfl)) rfl rfl rfl ⟨rfl, hd_T_waferOf⟩ ⟨Nat.le_of_ble_eq_true rfl, Nat.le_of_ble_eq_true rfl⟩) (vx_preV (P := PR X G A) hP hK (va_recv hK.1 hP (ci := 0) rfl cw_0)) rfl rfl hl.1 rfl (lv_room (Nat.le_of_ble_eq_true rfl)) d_T_visited_2 ⟨Nat.zero_le _, Nat.zero_le _⟩) (fun r2 e2 => ?_)
  cases q2 : f_T_waferOf A x with
  | none =>
    have e2 : r2 = none := by rw [e2, q2]; rfl
    subst e2
    refine lv_astore_nN (lv' := [(3, .null), (0, .ref (gA_ad G 0)), (1, .int x), (2, .int y)]) hx hb d_T_visited_5 rfl hl (by decide) rfl (fun ls hl => ?_)
    refine lv_aload_nN hx hb d_T_visited_6 rfl (lv_at hl 0 rfl) ?_
    refine lv_ifnullN (tgt := 18) hx hb d_T_visited_7 rfl ?_
    refine lv_iconst (v := (-1)) hx hb d_T_visited_18 rfl ?_
    refine lv_goto (tgt := 28) hx hb d_T_visited_19 rfl ?_
    exact W.iret (v := (-1)) hx hb hrt (fun t ht hW => ⟨_, rfl, by rw [f_T_visited, oc_none q2], ht⟩) (fun q h => by cases h) d_T_visited_28
  | some i2 =>
    have e2 : r2 = some (gA_ad G (18 + 4 * i2)) := by rw [e2, q2]; rfl
    subst e2
    have hli2 := waferOf_lt hn q2
    refine lv_astore_n (lv' := [(3, .ref (gA_ad G (18 + 4 * i2))), (0, .ref (gA_ad G 0)), (1, .int x), (2, .int y)]) hx hb d_T_visited_5 rfl hl (by decide) rfl (fun ls hl => ?_)
    refine lv_aload_n hx hb d_T_visited_6 rfl (lv_at hl 0 rfl) ?_
    refine lv_ifnull hx hb d_T_visited_7 ?_
    refine lv_aload_n hx hb d_T_visited_10 rfl (lv_at hl 0 rfl) ?_
    refine lv_iload_n hx hb d_T_visited_11 rfl (lv_at hl 3 rfl) ?_
    refine vp_callSi (W.runV (As := [.int y]) (rest := []) ⟨hx, hb, hml, hown, hts⟩ (c_W_hasBegun l X G A i2 hli2 y) (cwV 1 hts (gV (wd_2 122 rfl rfl) (wd_2 123 rfl rfl) (wd_2 124 rfl rfl) (wd_1 7 rfl rfl) (wd_2 125 rfl rfl)) rfl rfl rfl ⟨rfl, hd_W_hasBegun⟩ ⟨Nat.le_of_ble_eq_true rfl, Nat.le_of_ble_eq_true rfl⟩) (vx_preV (P := PR X G A) hP hK (va_recv hK.1 hP (ci := 5) rfl (cw_w hli2))) rfl rfl hl.1 rfl (lv_room (Nat.le_of_ble_eq_true rfl)) d_T_visited_12 ⟨Nat.zero_le _, Nat.zero_le _⟩) (fun r12 e12 => ?_)
    subst e12
    refine lv_if_ne (tgt := 22) hx hb d_T_visited_15 rfl (fun h15 => ?_) (fun h15 => ?_)
    ·
      have h15 := b2i_t h15
      refine lv_aload_n hx hb d_T_visited_22 rfl (lv_at hl 0 rfl) ?_
      refine va_getN (D := X.1) (ci := 5) (C := R_Wafer) (T := F_Wafer) (N := 10) hx hb hts hin_Wafer hown hK.1 hP (18 + 4 * i2) (cw_w hli2) rfl 1 (by decide) (va_Nw.use rfl (hK.2.1 _ (List.mem_of_getElem? (i := 9) rfl))) (fun _ h9 => h9) rfl d_T_visited_23 ?_
      refine lv_iload_n hx hb d_T_visited_26 rfl (lv_at hl 3 rfl) ?_
      refine va_iald hx hb hK.1 hP (18 + 4 * i2 + 1) 0 (cw_wc hli2) rfl (begun_in hI hli2 h15) d_T_visited_27 ?_
      exact W.iret (v := sA_ch A i2 y.toNatClampNeg) hx hb hrt (fun t ht hW => ⟨_, rfl, by rw [f_T_visited, oc_some q2, if_pos h15], ht⟩) (fun q h => by cases h) d_T_visited_28
    ·
      have h15 := b2i_f h15
      refine lv_iconst (v := (-1)) hx hb d_T_visited_18 rfl ?_
      refine lv_goto (tgt := 28) hx hb d_T_visited_19 rfl ?_
      exact W.iret (v := (-1)) hx hb hrt (fun t ht hW => ⟨_, rfl, by rw [f_T_visited, oc_some q2, if_neg (nt_of h15)], ht⟩) (fun q h => by cases h) d_T_visited_28
abbrev rm_T_when : Room := { frames := 2, cells := 0, slots := 0, locals := 43 }
def f_T_when (A : St) (x : Int32) (y : Int32) (z : Int32) : Int32 :=
  oc (f_T_waferOf A x)
    ((-1))
    (fun i2 =>
      if (f_W_hasBegun A i2 y) then
        if z = 0 then
          sA_be A i2 y.toNatClampNeg
        else
          sA_en A i2 y.toNatClampNeg
      else
        (-1))
set_option maxRecDepth 20000 in
set_option maxHeartbeats 4000000 in
theorem c_T_when (l : Launch) (X : Xt) (G : Gc) (A : St) (x : Int32) (y : Int32) (z : Int32) (hI : Inv A) : Met l y_T_when (Cond.code y_T_when b_T_when 5 (some .int) :: WA) rm_T_when (va_Pc [.ref (gA_ad G 0), .int x, .int y, .int z] (fun U => PR X G A U.heap ∧ KK X U)) (vp_Si (fun ans => ans = f_T_when A x y z)) 0 0 (fun _ => False) := by
  refine vx_met (cc := b_T_when) (maxL := 5) (ret := (some .int)) (by decide) rfl (Nat.le_of_ble_eq_true rfl) ?_
  intro p e s m below meth c ls hx hb hrt hts hown hlocks hname hml hB hl
  obtain ⟨hP, hK⟩ := hB
  have hown : s.vm.findClass R_ClusterTool = some m.cls := hown
  have hl : lv_has ls 5 [(0, .ref (gA_ad G 0)), (1, .int x), (2, .int y), (3, .int z)] := hl
  have hP : va_P X.1 classes (cw X G A) s.heap := hP
  have hn := hI.1
  have hR := hI.2.1
  refine lv_aload_n hx hb d_T_when_0 rfl (lv_at hl 0 rfl) ?_
  refine lv_iload_n hx hb d_T_when_1 rfl (lv_at hl 1 rfl) ?_
  refine va_csq (W.runV (As := [.int x]) (rest := []) ⟨hx, hb, hml, hown, hts⟩ (c_T_waferOf l X G A x hn) (cwV 1 hts (gV (wd_1 180 rfl rfl) (wd_1 182 rfl rfl) (wd_s 0 rfl) (wd_1 1 rfl rfl) (wd_1 183 rfl rfl)) rfl rfl rfl ⟨rfl, hd_T_waferOf⟩ ⟨Nat.le_of_ble_eq_true rfl, Nat.le_of_ble_eq_true rfl⟩) (vx_preV (P := PR X G A) hP hK (va_recv hK.1 hP (ci := 0) rfl cw_0)) rfl rfl hl.1 rfl (lv_room (Nat.le_of_ble_eq_true rfl)) d_T_when_2 ⟨Nat.zero_le _, Nat.zero_le _⟩) (fun r2 e2 => ?_)
  cases q2 : f_T_waferOf A x with
  | none =>
    have e2 : r2 = none := by rw [e2, q2]; rfl
    subst e2
    refine lv_astoreN (lv' := [(4, .null), (0, .ref (gA_ad G 0)), (1, .int x), (2, .int y), (3, .int z)]) hx hb d_T_when_5 hl (by decide) rfl (fun ls hl => ?_)
    refine lv_aloadN hx hb d_T_when_7 (lv_at hl 0 rfl) ?_
    refine lv_ifnullN (tgt := 21) hx hb d_T_when_9 rfl ?_
    refine lv_iconst (v := (-1)) hx hb d_T_when_21 rfl ?_
    exact W.iret (v := (-1)) hx hb hrt (fun t ht hW => ⟨_, rfl, by rw [f_T_when, oc_none q2], ht⟩) (fun q h => by cases h) d_T_when_22
  | some i2 =>
    have e2 : r2 = some (gA_ad G (18 + 4 * i2)) := by rw [e2, q2]; rfl
    subst e2
    have hli2 := waferOf_lt hn q2
    refine lv_astore (lv' := [(4, .ref (gA_ad G (18 + 4 * i2))), (0, .ref (gA_ad G 0)), (1, .int x), (2, .int y), (3, .int z)]) hx hb d_T_when_5 hl (by decide) rfl (fun ls hl => ?_)
    refine lv_aload hx hb d_T_when_7 (lv_at hl 0 rfl) ?_
    refine lv_ifnull hx hb d_T_when_9 ?_
    refine lv_aload hx hb d_T_when_12 (lv_at hl 0 rfl) ?_
    refine lv_iload_n hx hb d_T_when_14 rfl (lv_at hl 3 rfl) ?_
    refine vp_callSi (W.runV (As := [.int y]) (rest := []) ⟨hx, hb, hml, hown, hts⟩ (c_W_hasBegun l X G A i2 hli2 y) (cwV 1 hts (gV (wd_2 122 rfl rfl) (wd_2 123 rfl rfl) (wd_2 124 rfl rfl) (wd_1 7 rfl rfl) (wd_2 125 rfl rfl)) rfl rfl rfl ⟨rfl, hd_W_hasBegun⟩ ⟨Nat.le_of_ble_eq_true rfl, Nat.le_of_ble_eq_true rfl⟩) (vx_preV (P := PR X G A) hP hK (va_recv hK.1 hP (ci := 5) rfl (cw_w hli2))) rfl rfl hl.1 rfl (lv_room (Nat.le_of_ble_eq_true rfl)) d_T_when_15 ⟨Nat.zero_le _, Nat.zero_le _⟩) (fun r15 e15 => ?_)
    subst e15
    refine lv_if_ne (tgt := 23) hx hb d_T_when_18 rfl (fun h18 => ?_) (fun h18 => ?_)
    ·
      have h18 := b2i_t h18
      refine lv_iload_n hx hb d_T_when_23 rfl (lv_at hl 4 rfl) ?_
      refine lv_if_eq (tgt := 37) hx hb d_T_when_24 rfl (fun h24 => ?_) (fun h24 => ?_)
      ·
        refine lv_aload hx hb d_T_when_37 (lv_at hl 0 rfl) ?_
        refine va_getN (D := X.1) (ci := 5) (C := R_Wafer) (T := F_Wafer) (N := 10) hx hb hts hin_Wafer hown hK.1 hP (18 + 4 * i2) (cw_w hli2) rfl 2 (by decide) (va_Nw.use rfl (hK.2.1 _ (List.mem_of_getElem? (i := 10) rfl))) (fun _ h9 => h9) rfl d_T_when_39 ?_
        refine lv_iload_n hx hb d_T_when_42 rfl (lv_at hl 3 rfl) ?_
        refine va_iald hx hb hK.1 hP (18 + 4 * i2 + 2) 0 (cw_wb hli2) rfl (begun_in hI hli2 h18) d_T_when_43 ?_
        exact W.iret (v := sA_be A i2 y.toNatClampNeg) hx hb hrt (fun t ht hW => ⟨_, rfl, by rw [f_T_when, oc_some q2, if_pos h18, if_pos h24], ht⟩) (fun q h => by cases h) d_T_when_44
      ·
        refine lv_aload hx hb d_T_when_27 (lv_at hl 0 rfl) ?_
        refine va_getN (D := X.1) (ci := 5) (C := R_Wafer) (T := F_Wafer) (N := 10) hx hb hts hin_Wafer hown hK.1 hP (18 + 4 * i2) (cw_w hli2) rfl 3 (by decide) (va_Nw.use rfl (hK.2.1 _ (List.mem_of_getElem? (i := 11) rfl))) (fun _ h9 => h9) rfl d_T_when_29 ?_
        refine lv_iload_n hx hb d_T_when_32 rfl (lv_at hl 3 rfl) ?_
        refine va_iald hx hb hK.1 hP (18 + 4 * i2 + 3) 0 (cw_we hli2) rfl (begun_in hI hli2 h18) d_T_when_33 ?_
        refine lv_goto (tgt := 44) hx hb d_T_when_34 rfl ?_
        exact W.iret (v := sA_en A i2 y.toNatClampNeg) hx hb hrt (fun t ht hW => ⟨_, rfl, by rw [f_T_when, oc_some q2, if_pos h18, if_neg h24], ht⟩) (fun q h => by cases h) d_T_when_44
    ·
      have h18 := b2i_f h18
      refine lv_iconst (v := (-1)) hx hb d_T_when_21 rfl ?_
      exact W.iret (v := (-1)) hx hb hrt (fun t ht hW => ⟨_, rfl, by rw [f_T_when, oc_some q2, if_neg (nt_of h18)], ht⟩) (fun q h => by cases h) d_T_when_22
abbrev rm_T_in : Room := { frames := 1, cells := 0, slots := 0, locals := 22 }
def f_T_in (G : Gc) (A : St) (x : Int32) : Int32 :=
  if (f_T_isWithin x 0 4) then
    gA_ins G x.toNatClampNeg
  else
    (-1)
set_option maxRecDepth 20000 in
set_option maxHeartbeats 4000000 in
theorem c_T_in (l : Launch) (X : Xt) (G : Gc) (A : St) (x : Int32) (hI : Inv A) : Met l y_T_in (Cond.code y_T_in b_T_in 2 (some .int) :: WA) rm_T_in (va_Pc [.ref (gA_ad G 0), .int x] (fun U => PR X G A U.heap ∧ KK X U)) (vp_Si (fun ans => ans = f_T_in G A x)) 0 0 (fun _ => False) := by
  refine vx_met (cc := b_T_in) (maxL := 2) (ret := (some .int)) (by decide) rfl (Nat.le_of_ble_eq_true rfl) ?_
  intro p e s m below meth c ls hx hb hrt hts hown hlocks hname hml hB hl
  obtain ⟨hP, hK⟩ := hB
  have hown : s.vm.findClass R_ClusterTool = some m.cls := hown
  have hl : lv_has ls 2 [(0, .ref (gA_ad G 0)), (1, .int x)] := hl
  have hP : va_P X.1 classes (cw X G A) s.heap := hP
  have hn := hI.1
  have hR := hI.2.1
  refine lv_iload_n hx hb d_T_in_0 rfl (lv_at hl 1 rfl) ?_
  refine lv_iconst (v := 0) hx hb d_T_in_1 rfl ?_
  refine lv_iconst (v := 4) hx hb d_T_in_2 rfl ?_
  refine vp_callSi (W.runS (As := [.int x, .int 0, .int 4]) (rest := []) ⟨hx, hb, hml, hown, hts⟩ (c_T_isWithin l X x 0 4) (va_cwS 3 hts (gT (wd_1 121 rfl rfl) (wd_1 119 rfl rfl) (wd_1 1 rfl rfl) (wd_1 120 rfl rfl)) rfl rfl rfl hd_T_isWithin ⟨Nat.le_of_ble_eq_true rfl, Nat.le_of_ble_eq_true rfl⟩) (vx_preS (P := fun _ => True) trivial hK) rfl rfl hl.1 rfl (lv_room (Nat.le_of_ble_eq_true rfl)) d_T_in_3 ⟨Nat.zero_le _, Nat.zero_le _⟩) (fun r3 e3 => ?_)
  subst e3
  refine lv_if_eq (tgt := 18) hx hb d_T_in_6 rfl (fun h6 => ?_) (fun h6 => ?_)
  ·
    have h6 := b2i_f h6
    refine lv_iconst (v := (-1)) hx hb d_T_in_18 rfl ?_
    exact W.iret (v := (-1)) hx hb hrt (fun t ht hW => ⟨_, rfl, by rw [f_T_in, if_neg (nt_of h6)], ht⟩) (fun q h => by cases h) d_T_in_19
  ·
    have h6 := b2i_t h6
    refine lv_aload_n hx hb d_T_in_9 rfl (lv_at hl 0 rfl) ?_
    refine va_get (D := X.1) (ci := 0) (C := R_ClusterTool) (T := F_ClusterTool) (N := 8) hx hb hts hin_ClusterTool hown hK.1 hP 0 cw_0 rfl 5 (by decide) (hts _ (wd_1 90 rfl rfl)) (fun _ h9 => h9) rfl d_T_in_10 ?_
    refine lv_iload_n hx hb d_T_in_13 rfl (lv_at hl 1 rfl) ?_
    refine va_iald hx hb hK.1 hP 6 0 cw_6 rfl (within_in h6 (by decide)) d_T_in_14 ?_
    refine lv_goto (tgt := 19) hx hb d_T_in_15 rfl ?_
    exact W.iret (v := gA_ins G x.toNatClampNeg) hx hb hrt (fun t ht hW => ⟨_, rfl, by rw [f_T_in, if_pos h6], ht⟩) (fun q h => by cases h) d_T_in_19
abbrev rm_T_stay : Room := { frames := 3, cells := 0, slots := 0, locals := 65 }
def f_T_stay (G : Gc) (A : St) (x : Int32) : Int32 :=
  oc (f_T_waferOf A x)
    ((-1))
    (fun i2 =>
      if (nI (sA_pl A i2)) < 4 then
        if (f_T_limitOf A i2) = 0 then
          (-1)
        else
          (if 0 < (((nI (sA_lf A i2)) + (f_T_limitOf A i2)) - (gA_wt G i2)) then (((nI (sA_lf A i2)) + (f_T_limitOf A i2)) - (gA_wt G i2)) else 0)
      else
        (-1))
set_option maxRecDepth 20000 in
set_option maxHeartbeats 4000000 in
theorem c_T_stay (l : Launch) (X : Xt) (G : Gc) (A : St) (x : Int32) (hI : Inv A) : Met l y_T_stay (Cond.code y_T_stay b_T_stay 4 (some .int) :: WA) rm_T_stay (va_Pc [.ref (gA_ad G 0), .int x] (fun U => PR X G A U.heap ∧ KK X U)) (vp_Si (fun ans => ans = f_T_stay G A x)) 0 0 (fun _ => False) := by
  refine vx_met (cc := b_T_stay) (maxL := 4) (ret := (some .int)) (by decide) rfl (Nat.le_of_ble_eq_true rfl) ?_
  intro p e s m below meth c ls hx hb hrt hts hown hlocks hname hml hB hl
  obtain ⟨hP, hK⟩ := hB
  have hown : s.vm.findClass R_ClusterTool = some m.cls := hown
  have hl : lv_has ls 4 [(0, .ref (gA_ad G 0)), (1, .int x)] := hl
  have hP : va_P X.1 classes (cw X G A) s.heap := hP
  have hn := hI.1
  have hR := hI.2.1
  refine lv_aload_n hx hb d_T_stay_0 rfl (lv_at hl 0 rfl) ?_
  refine lv_iload_n hx hb d_T_stay_1 rfl (lv_at hl 1 rfl) ?_
  refine va_csq (W.runV (As := [.int x]) (rest := []) ⟨hx, hb, hml, hown, hts⟩ (c_T_waferOf l X G A x hn) (cwV 1 hts (gV (wd_1 180 rfl rfl) (wd_1 182 rfl rfl) (wd_s 0 rfl) (wd_1 1 rfl rfl) (wd_1 183 rfl rfl)) rfl rfl rfl ⟨rfl, hd_T_waferOf⟩ ⟨Nat.le_of_ble_eq_true rfl, Nat.le_of_ble_eq_true rfl⟩) (vx_preV (P := PR X G A) hP hK (va_recv hK.1 hP (ci := 0) rfl cw_0)) rfl rfl hl.1 rfl (lv_room (Nat.le_of_ble_eq_true rfl)) d_T_stay_2 ⟨Nat.zero_le _, Nat.zero_le _⟩) (fun r2 e2 => ?_)
  cases q2 : f_T_waferOf A x with
  | none =>
    have e2 : r2 = none := by rw [e2, q2]; rfl
    subst e2
    refine lv_astore_nN (lv' := [(2, .null), (0, .ref (gA_ad G 0)), (1, .int x)]) hx hb d_T_stay_5 rfl hl (by decide) rfl (fun ls hl => ?_)
    refine lv_aload_nN hx hb d_T_stay_6 rfl (lv_at hl 0 rfl) ?_
    refine lv_ifnullN (tgt := 18) hx hb d_T_stay_7 rfl ?_
    refine lv_iconst (v := (-1)) hx hb d_T_stay_18 rfl ?_
    exact W.iret (v := (-1)) hx hb hrt (fun t ht hW => ⟨_, rfl, by rw [f_T_stay, oc_none q2], ht⟩) (fun q h => by cases h) d_T_stay_19
  | some i2 =>
    have e2 : r2 = some (gA_ad G (18 + 4 * i2)) := by rw [e2, q2]; rfl
    subst e2
    have hli2 := waferOf_lt hn q2
    refine lv_astore_n (lv' := [(2, .ref (gA_ad G (18 + 4 * i2))), (0, .ref (gA_ad G 0)), (1, .int x)]) hx hb d_T_stay_5 rfl hl (by decide) rfl (fun ls hl => ?_)
    refine lv_aload_n hx hb d_T_stay_6 rfl (lv_at hl 0 rfl) ?_
    refine lv_ifnull hx hb d_T_stay_7 ?_
    refine lv_aload_n hx hb d_T_stay_10 rfl (lv_at hl 0 rfl) ?_
    refine va_getN (D := X.1) (ci := 5) (C := R_Wafer) (T := F_Wafer) (N := 10) hx hb hts hin_Wafer hown hK.1 hP (18 + 4 * i2) (cw_w hli2) rfl 4 (by decide) (va_Nw.use rfl (hK.2.1 _ (List.mem_of_getElem? (i := 12) rfl))) (fun _ h9 => h9) rfl d_T_stay_11 ?_
    refine lv_iconst (v := 4) hx hb d_T_stay_14 rfl ?_
    refine lv_icmp_lt (tgt := 20) hx hb d_T_stay_15 rfl (fun h15 => ?_) (fun h15 => ?_)
    ·
      refine lv_aload_n hx hb d_T_stay_20 rfl (lv_at hl 1 rfl) ?_
      refine lv_aload_n hx hb d_T_stay_21 rfl (lv_at hl 0 rfl) ?_
      refine vp_callSi (W.runV (As := [.ref (gA_ad G (18 + 4 * i2))]) (rest := []) ⟨hx, hb, hml, hown, hts⟩ (c_T_limitOf l X G A i2 hli2 hR) (cwV 1 hts (gV (wd_2 59 rfl rfl) (wd_2 61 rfl rfl) (wd_s 10 rfl) (wd_1 1 rfl rfl) (wd_2 62 rfl rfl)) rfl rfl rfl ⟨rfl, hd_T_limitOf⟩ ⟨Nat.le_of_ble_eq_true rfl, Nat.le_of_ble_eq_true rfl⟩) (vx_preV (P := PR X G A) hP hK (va_recv hK.1 hP (ci := 0) rfl cw_0)) rfl rfl hl.1 rfl (lv_room (Nat.le_of_ble_eq_true rfl)) d_T_stay_22 ⟨Nat.zero_le _, Nat.zero_le _⟩) (fun r22 e22 => ?_)
      subst e22
      refine lv_istore_n (lv' := [(3, .int (f_T_limitOf A i2)), (2, .ref (gA_ad G (18 + 4 * i2))), (0, .ref (gA_ad G 0)), (1, .int x)]) hx hb d_T_stay_25 rfl hl (by decide) rfl (fun ls hl => ?_)
      refine lv_iload_n hx hb d_T_stay_26 rfl (lv_at hl 0 rfl) ?_
      refine lv_if_ne (tgt := 34) hx hb d_T_stay_27 rfl (fun h27 => ?_) (fun h27 => ?_)
      ·
        refine lv_iconst (v := 0) hx hb d_T_stay_34 rfl ?_
        refine lv_aload_n hx hb d_T_stay_35 rfl (lv_at hl 1 rfl) ?_
        refine va_getN (D := X.1) (ci := 5) (C := R_Wafer) (T := F_Wafer) (N := 10) hx hb hts hin_Wafer hown hK.1 hP (18 + 4 * i2) (cw_w hli2) rfl 6 (by decide) (va_Nw.use rfl (hK.2.1 _ (List.mem_of_getElem? (i := 14) rfl))) (fun _ h9 => h9) rfl d_T_stay_36 ?_
        refine lv_iload_n hx hb d_T_stay_39 rfl (lv_at hl 0 rfl) ?_
        refine lv_iadd hx hb d_T_stay_40 ?_
        refine lv_aload_n hx hb d_T_stay_41 rfl (lv_at hl 1 rfl) ?_
        refine va_getN (D := X.1) (ci := 5) (C := R_Wafer) (T := F_Wafer) (N := 10) hx hb hts hin_Wafer hown hK.1 hP (18 + 4 * i2) (cw_w hli2) rfl 7 (by decide) (va_Nw.use rfl (hK.2.1 _ (List.mem_of_getElem? (i := 15) rfl))) (fun _ h9 => h9) rfl d_T_stay_42 ?_
        refine lv_isub hx hb d_T_stay_45 ?_
        refine va_mmax hx hb (hml.trans hl.1.symm) hown (hts _ (wd_2 67 rfl rfl)) (hts _ (wd_2 68 rfl rfl)) (hts _ (wd_1 9 rfl rfl)) (hts _ (wd_2 69 rfl rfl)) (Nat.le_of_ble_eq_true rfl) (Nat.le_of_ble_eq_true rfl) (Nat.zero_le _) (Nat.zero_le _) d_T_stay_46 ?_
        exact W.iret (v := (if 0 < (((nI (sA_lf A i2)) + (f_T_limitOf A i2)) - (gA_wt G i2)) then (((nI (sA_lf A i2)) + (f_T_limitOf A i2)) - (gA_wt G i2)) else 0)) hx hb hrt (fun t ht hW => ⟨_, rfl, by rw [f_T_stay, oc_some q2, if_pos h15, if_neg h27], ht⟩) (fun q h => by cases h) d_T_stay_49
      ·
        refine lv_iconst (v := (-1)) hx hb d_T_stay_30 rfl ?_
        refine lv_goto (tgt := 49) hx hb d_T_stay_31 rfl ?_
        exact W.iret (v := (-1)) hx hb hrt (fun t ht hW => ⟨_, rfl, by rw [f_T_stay, oc_some q2, if_pos h15, if_pos h27], ht⟩) (fun q h => by cases h) d_T_stay_49
    ·
      refine lv_iconst (v := (-1)) hx hb d_T_stay_18 rfl ?_
      exact W.iret (v := (-1)) hx hb hrt (fun t ht hW => ⟨_, rfl, by rw [f_T_stay, oc_some q2, if_neg h15], ht⟩) (fun q h => by cases h) d_T_stay_19
abbrev rm_T_rankOf : Room := { frames := 4, cells := 0, slots := 0, locals := 88 }
def f_T_rankOf (G : Gc) (A : St) (x : Int32) : Int32 :=
  if (f_T_place A x) = 5 then
    1001
  else
    if (f_T_stay G A x) = (-1) then
      1000
    else
      f_T_stay G A x
set_option maxRecDepth 20000 in
set_option maxHeartbeats 4000000 in
theorem c_T_rankOf (l : Launch) (X : Xt) (G : Gc) (A : St) (x : Int32) (hI : Inv A) : Met l y_T_rankOf (Cond.code y_T_rankOf b_T_rankOf 3 (some .int) :: WA) rm_T_rankOf (va_Pc [.ref (gA_ad G 0), .int x] (fun U => PR X G A U.heap ∧ KK X U)) (vp_Si (fun ans => ans = f_T_rankOf G A x)) 0 0 (fun _ => False) := by
  refine vx_met (cc := b_T_rankOf) (maxL := 3) (ret := (some .int)) (by decide) rfl (Nat.le_of_ble_eq_true rfl) ?_
  intro p e s m below meth c ls hx hb hrt hts hown hlocks hname hml hB hl
  obtain ⟨hP, hK⟩ := hB
  have hown : s.vm.findClass R_ClusterTool = some m.cls := hown
  have hl : lv_has ls 3 [(0, .ref (gA_ad G 0)), (1, .int x)] := hl
  have hP : va_P X.1 classes (cw X G A) s.heap := hP
  have hn := hI.1
  have hR := hI.2.1
  refine lv_aload_n hx hb d_T_rankOf_0 rfl (lv_at hl 0 rfl) ?_
  refine lv_iload_n hx hb d_T_rankOf_1 rfl (lv_at hl 1 rfl) ?_
  refine vp_callSi (W.runV (As := [.int x]) (rest := []) ⟨hx, hb, hml, hown, hts⟩ (c_T_place l X G A x hI) (cwV 1 hts (gV (wd_2 51 rfl rfl) (wd_2 52 rfl rfl) (wd_2 53 rfl rfl) (wd_1 1 rfl rfl) (wd_2 54 rfl rfl)) rfl rfl rfl ⟨rfl, hd_T_place⟩ ⟨Nat.le_of_ble_eq_true rfl, Nat.le_of_ble_eq_true rfl⟩) (vx_preV (P := PR X G A) hP hK (va_recv hK.1 hP (ci := 0) rfl cw_0)) rfl rfl hl.1 rfl (lv_room (Nat.le_of_ble_eq_true rfl)) d_T_rankOf_2 ⟨Nat.zero_le _, Nat.zero_le _⟩) (fun r2 e2 => ?_)
  subst e2
  refine lv_iconst (v := 5) hx hb d_T_rankOf_5 rfl ?_
  refine lv_icmp_ne (tgt := 13) hx hb d_T_rankOf_6 rfl (fun h6 => ?_) (fun h6 => ?_)
  ·
    refine lv_aload_n hx hb d_T_rankOf_13 rfl (lv_at hl 0 rfl) ?_
    refine lv_iload_n hx hb d_T_rankOf_14 rfl (lv_at hl 1 rfl) ?_
    refine vp_callSi (W.runV (As := [.int x]) (rest := []) ⟨hx, hb, hml, hown, hts⟩ (c_T_stay l X G A x hI) (cwV 1 hts (gV (wd_2 55 rfl rfl) (wd_2 56 rfl rfl) (wd_2 57 rfl rfl) (wd_1 1 rfl rfl) (wd_2 58 rfl rfl)) rfl rfl rfl ⟨rfl, hd_T_stay⟩ ⟨Nat.le_of_ble_eq_true rfl, Nat.le_of_ble_eq_true rfl⟩) (vx_preV (P := PR X G A) hP hK (va_recv hK.1 hP (ci := 0) rfl cw_0)) rfl rfl hl.1 rfl (lv_room (Nat.le_of_ble_eq_true rfl)) d_T_rankOf_15 ⟨Nat.zero_le _, Nat.zero_le _⟩) (fun r15 e15 => ?_)
    subst e15
    refine lv_istore_n (lv' := [(2, .int (f_T_stay G A x)), (0, .ref (gA_ad G 0)), (1, .int x)]) hx hb d_T_rankOf_18 rfl hl (by decide) rfl (fun ls hl => ?_)
    refine lv_iload_n hx hb d_T_rankOf_19 rfl (lv_at hl 0 rfl) ?_
    refine lv_iconst (v := (-1)) hx hb d_T_rankOf_20 rfl ?_
    refine lv_icmp_ne (tgt := 30) hx hb d_T_rankOf_21 rfl (fun h21 => ?_) (fun h21 => ?_)
    ·
      refine lv_iload_n hx hb d_T_rankOf_30 rfl (lv_at hl 0 rfl) ?_
      exact W.iret (v := f_T_stay G A x) hx hb hrt (fun t ht hW => ⟨_, rfl, by rw [f_T_rankOf, if_neg h6, if_neg h21], ht⟩) (fun q h => by cases h) d_T_rankOf_31
    ·
      refine lv_sipush (v := 1000) hx hb d_T_rankOf_24 rfl ?_
      refine lv_goto (tgt := 31) hx hb d_T_rankOf_27 rfl ?_
      exact W.iret (v := 1000) hx hb hrt (fun t ht hW => ⟨_, rfl, by rw [f_T_rankOf, if_neg h6, if_pos h21], ht⟩) (fun q h => by cases h) d_T_rankOf_31
  ·
    refine lv_sipush (v := 1001) hx hb d_T_rankOf_9 rfl ?_
    exact W.iret (v := 1001) hx hb hrt (fun t ht hW => ⟨_, rfl, by rw [f_T_rankOf, if_pos h6], ht⟩) (fun q h => by cases h) d_T_rankOf_12
