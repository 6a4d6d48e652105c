def w_M_isWay (d k : Nat) (e : Bool) (u v : Nat) : Bool :=
  if 4 ≤ (nI u) then
    if 4 ≤ (nI v) then
      if (f_M_areNear (nI u) (nI v)) then
        if e = true then
          if 2 ≤ (nI u) then
            if (nI u) = 4 then
              if (nI v) = 5 then
                true
              else
                if (nI u) ≤ 1 then
                  false
                else
                  if 4 ≤ (nI u) then
                    false
                  else
                    if (nI v) = 4 then
                      true
                    else
                      false
            else
              if (nI u) ≤ 1 then
                false
              else
                if 4 ≤ (nI u) then
                  false
                else
                  if (nI v) = 4 then
                    true
                  else
                    false
          else
            if (nI v) = 5 then
              true
            else
              if (nI u) = 4 then
                if (nI v) = 5 then
                  true
                else
                  if (nI u) ≤ 1 then
                    false
                  else
                    if 4 ≤ (nI u) then
                      false
                    else
                      if (nI v) = 4 then
                        true
                      else
                        false
              else
                if (nI u) ≤ 1 then
                  false
                else
                  if 4 ≤ (nI u) then
                    false
                  else
                    if (nI v) = 4 then
                      true
                    else
                      false
        else
          if 4 ≤ (nI v) then
            if (nI u) < 2 then
              if (nI v) = 4 then
                if (nI u) = 4 then
                  false
                else
                  if ((nI (k)) &&& 12) = 0 then
                    false
                  else
                    true
              else
                false
            else
              if (nI u) = 5 then
                if (nI v) = 4 then
                  if (nI u) = 4 then
                    false
                  else
                    if ((nI (k)) &&& 12) = 0 then
                      false
                    else
                      true
                else
                  false
              else
                if (nI v) = 4 then
                  if (nI u) = 4 then
                    false
                  else
                    if ((nI (k)) &&& 3) = 0 then
                      false
                    else
                      true
                else
                  false
          else
            if (((nI (k)) >>> ((nI v) &&& 31)) &&& 1) = 1 then
              true
            else
              false
      else
        false
    else
      if (d.testBit v) then
        false
      else
        if (f_M_areNear (nI u) (nI v)) then
          if e = true then
            if 2 ≤ (nI u) then
              if (nI u) = 4 then
                if (nI v) = 5 then
                  true
                else
                  if (nI u) ≤ 1 then
                    false
                  else
                    if 4 ≤ (nI u) then
                      false
                    else
                      if (nI v) = 4 then
                        true
                      else
                        false
              else
                if (nI u) ≤ 1 then
                  false
                else
                  if 4 ≤ (nI u) then
                    false
                  else
                    if (nI v) = 4 then
                      true
                    else
                      false
            else
              if (nI v) = 5 then
                true
              else
                if (nI u) = 4 then
                  if (nI v) = 5 then
                    true
                  else
                    if (nI u) ≤ 1 then
                      false
                    else
                      if 4 ≤ (nI u) then
                        false
                      else
                        if (nI v) = 4 then
                          true
                        else
                          false
                else
                  if (nI u) ≤ 1 then
                    false
                  else
                    if 4 ≤ (nI u) then
                      false
                    else
                      if (nI v) = 4 then
                        true
                      else
                        false
          else
            if 4 ≤ (nI v) then
              if (nI u) < 2 then
                if (nI v) = 4 then
                  if (nI u) = 4 then
                    false
                  else
                    if ((nI (k)) &&& 12) = 0 then
                      false
                    else
                      true
                else
                  false
              else
                if (nI u) = 5 then
                  if (nI v) = 4 then
                    if (nI u) = 4 then
                      false
                    else
                      if ((nI (k)) &&& 12) = 0 then
                        false
                      else
                        true
                  else
                    false
                else
                  if (nI v) = 4 then
                    if (nI u) = 4 then
                      false
                    else
                      if ((nI (k)) &&& 3) = 0 then
                        false
                      else
                        true
                  else
                    false
            else
              if (((nI (k)) >>> ((nI v) &&& 31)) &&& 1) = 1 then
                true
              else
                false
        else
          false
  else
    if (d.testBit u) then
      false
    else
      if 4 ≤ (nI v) then
        if (f_M_areNear (nI u) (nI v)) then
          if e = true then
            if 2 ≤ (nI u) then
              if (nI u) = 4 then
                if (nI v) = 5 then
                  true
                else
                  if (nI u) ≤ 1 then
                    false
                  else
                    if 4 ≤ (nI u) then
                      false
                    else
                      if (nI v) = 4 then
                        true
                      else
                        false
              else
                if (nI u) ≤ 1 then
                  false
                else
                  if 4 ≤ (nI u) then
                    false
                  else
                    if (nI v) = 4 then
                      true
                    else
                      false
            else
              if (nI v) = 5 then
                true
              else
                if (nI u) = 4 then
                  if (nI v) = 5 then
                    true
                  else
                    if (nI u) ≤ 1 then
                      false
                    else
                      if 4 ≤ (nI u) then
                        false
                      else
                        if (nI v) = 4 then
                          true
                        else
                          false
                else
                  if (nI u) ≤ 1 then
                    false
                  else
                    if 4 ≤ (nI u) then
                      false
                    else
                      if (nI v) = 4 then
                        true
                      else
                        false
          else
            if 4 ≤ (nI v) then
              if (nI u) < 2 then
                if (nI v) = 4 then
                  if (nI u) = 4 then
                    false
                  else
                    if ((nI (k)) &&& 12) = 0 then
                      false
                    else
                      true
                else
                  false
              else
                if (nI u) = 5 then
                  if (nI v) = 4 then
                    if (nI u) = 4 then
                      false
                    else
                      if ((nI (k)) &&& 12) = 0 then
                        false
                      else
                        true
                  else
                    false
                else
                  if (nI v) = 4 then
                    if (nI u) = 4 then
                      false
                    else
                      if ((nI (k)) &&& 3) = 0 then
                        false
                      else
                        true
                  else
                    false
            else
              if (((nI (k)) >>> ((nI v) &&& 31)) &&& 1) = 1 then
                true
              else
                false
        else
          false
      else
        if (d.testBit v) then
          false
        else
          if (f_M_areNear (nI u) (nI v)) then
            if e = true then
              if 2 ≤ (nI u) then
                if (nI u) = 4 then
                  if (nI v) = 5 then
                    true
                  else
                    if (nI u) ≤ 1 then
                      false
                    else
                      if 4 ≤ (nI u) then
                        false
                      else
                        if (nI v) = 4 then
                          true
                        else
                          false
                else
                  if (nI u) ≤ 1 then
                    false
                  else
                    if 4 ≤ (nI u) then
                      false
                    else
                      if (nI v) = 4 then
                        true
                      else
                        false
              else
                if (nI v) = 5 then
                  true
                else
                  if (nI u) = 4 then
                    if (nI v) = 5 then
                      true
                    else
                      if (nI u) ≤ 1 then
                        false
                      else
                        if 4 ≤ (nI u) then
                          false
                        else
                          if (nI v) = 4 then
                            true
                          else
                            false
                  else
                    if (nI u) ≤ 1 then
                      false
                    else
                      if 4 ≤ (nI u) then
                        false
                      else
                        if (nI v) = 4 then
                          true
                        else
                          false
            else
              if 4 ≤ (nI v) then
                if (nI u) < 2 then
                  if (nI v) = 4 then
                    if (nI u) = 4 then
                      false
                    else
                      if ((nI (k)) &&& 12) = 0 then
                        false
                      else
                        true
                  else
                    false
                else
                  if (nI u) = 5 then
                    if (nI v) = 4 then
                      if (nI u) = 4 then
                        false
                      else
                        if ((nI (k)) &&& 12) = 0 then
                          false
                        else
                          true
                    else
                      false
                  else
                    if (nI v) = 4 then
                      if (nI u) = 4 then
                        false
                      else
                        if ((nI (k)) &&& 3) = 0 then
                          false
                        else
                          true
                    else
                      false
              else
                if (((nI (k)) >>> ((nI v) &&& 31)) &&& 1) = 1 then
                  true
                else
                  false
          else
            false
theorem way_tab1 : ∀ d, d < 16 → ∀ u, u < 6 → ∀ v, v < 6 → w_M_isWay d 0 true u v = leadN d 0 u v := by decide +kernel
theorem way_tab2 : ∀ k, k < 16 → 1 ≤ k → ∀ d, d < 16 → ∀ u, u < 6 → ∀ v, v < 6 → w_M_isWay d k false u v = leadN d k u v := by decide +kernel
theorem way_tabk : ∀ d k u v, w_M_isWay d k true u v = w_M_isWay d 0 true u v := by intro d k u v; simp only [w_M_isWay, if_true]
theorem way_eq {A : St} {r g u v : Nat} (hR : rOk A) (hg : g ≤ sA_len A r) (hu : u < 6) (hv : v < 6) : f_M_isWay A r g u v = leadN (sA_dn A) (mskN (envA A) r g) u v := by
  have wl := hR.1 r
  by_cases h : g = sA_len A r
  · have e1 : f_M_isWay A r g u v = w_M_isWay (sA_dn A) (sA_mk A r g) true u v := by
      have h2 : (nI g = nI (sA_len A r)) = True := eq_true (by rw [h])
      unfold f_M_isWay w_M_isWay
      simp only [h2]
    rw [e1, way_tabk, way_tab1 _ hR.2.2 _ hu _ hv]
    unfold mskN
    rw [if_neg (show ¬ g < e_len (envA A) r from by show ¬ g < sA_len A r; omega)]
  · have e1 : f_M_isWay A r g u v = w_M_isWay (sA_dn A) (sA_mk A r g) false u v := by
      have h2 : (nI g = nI (sA_len A r)) = False := eq_false (nI_ne h (by omega) (by omega))
      unfold f_M_isWay w_M_isWay
      simp only [h2, Bool.false_eq_true]
    have hm := hR.2.1 r g (by omega)
    rw [e1, way_tab2 _ hm.2.1 hm.1 _ hR.2.2 _ hu _ hv]
    unfold mskN
    rw [if_pos (show g < e_len (envA A) r from by show g < sA_len A r; omega)]
    rfl
abbrev rm_M_inPlace : Room := { frames := 0, cells := 0, slots := 0, locals := 0 }
set_option maxRecDepth 20000 in
set_option maxHeartbeats 4000000 in
theorem lp_M_inPlace {p : Program} {l : Launch} {e : Env} {s : State} {m : MethodId} {args : Array Value} {below : List Frame} {meth : Method} {c : Code} {Q : State → Prop} {X : Xt} {G : Gr} {A : St} {q : Nat} (hx : p.tables.exec = Jvm.exec) (hb : c.code = b_M_inPlace) (hts : ∀ w ∈ Cond.code y_M_inPlace b_M_inPlace 4 (some .int) :: WA, w.before args s = true) (hown : s.vm.findClass R_Model = some m.cls) (hml : c.maxLocals = 4) (hK : KK X s) (hI : Inv A) (hq : q < 6) (hP : va_P X.1 classes (rw_ X G A) s.heap) (kont : ∀ ls : Array Slot, lv_has ls 4 [(2, .int (inP A q))] → W p l e rm_M_inPlace s m args below meth c s.heap [] 0 0 Q (F0 m 39 ls [])) : ∀ (r i : Nat) (ls : Array Slot), i + r = sA_n A → lv_has ls 4 [(2, .int (occ5 A q i)), (3, .int (nI i)), (1, .int (nI q)), (0, .ref (rA_ad G 0))] → W p l e rm_M_inPlace s m args below meth c s.heap [] 0 0 Q (F0 m 4 ls []) := by
  have hn := hI.1
  intro r
  induction r with
  | zero =>
    intro i ls hi hl
    have hi : i = sA_n A := by omega
    subst hi
    refine lv_iload_n hx hb d_M_inPlace_4 rfl (lv_at hl 1 rfl) ?_
    refine lv_aload_n hx hb d_M_inPlace_5 rfl (lv_at hl 3 rfl) ?_
    refine va_get (D := X.1) (ci := 6) (C := R_Model) (T := F_Model) (N := 24) hx hb hts hin_Model hown hK.1 hP 0 rw_0 rfl 4 (by decide) (hts _ (wd_2 158 rfl rfl)) (fun _ h9 => h9) rfl d_M_inPlace_6 ?_
    refine lv_icmp_ge (tgt := 39) hx hb d_M_inPlace_9 rfl (fun h9 => ?_) (fun h9 => ?_)
    ·
      exact kont ls (lv_sub hl [0] rfl)
    ·
      exact absurd (Int32.le_refl _) h9
  | succ r ih =>
    intro i ls hi hl
    have hin : i < sA_n A := by omega
    have w3 := (hI.2.2.1 i hin).2.2.1
    refine lv_iload_n hx hb d_M_inPlace_4 rfl (lv_at hl 1 rfl) ?_
    refine lv_aload_n hx hb d_M_inPlace_5 rfl (lv_at hl 3 rfl) ?_
    refine va_get (D := X.1) (ci := 6) (C := R_Model) (T := F_Model) (N := 24) hx hb hts hin_Model hown hK.1 hP 0 rw_0 rfl 4 (by decide) (hts _ (wd_2 158 rfl rfl)) (fun _ h9 => h9) rfl d_M_inPlace_6 ?_
    refine lv_icmp_ge (tgt := 39) hx hb d_M_inPlace_9 rfl (fun h9 => ?_) (fun h9 => ?_)
    ·
      exact absurd h9 (nI_ge hin (by omega))
    ·
      refine lv_iload_n hx hb d_M_inPlace_12 rfl (lv_at hl 2 rfl) ?_
      refine lv_iconst (v := 5) hx hb d_M_inPlace_13 rfl ?_
      refine lv_icmp_ge (tgt := 31) hx hb d_M_inPlace_14 rfl (fun h14 => ?_) (fun h14 => ?_)
      ·
        refine lv_iload_n hx hb d_M_inPlace_31 rfl (lv_at hl 0 rfl) ?_
        refine lv_istore_n (lv' := [(2, .int (occ5 A q i)), (3, .int (nI i)), (1, .int (nI q)), (0, .ref (rA_ad G 0))]) hx hb d_M_inPlace_32 rfl hl (by decide) rfl (fun ls hl => ?_)
        refine lv_iinc (k := 1) (v := (nI i + 1)) (lv' := [(3, .int (nI i + 1)), (2, .int (occ5 A q i)), (1, .int (nI q)), (0, .ref (rA_ad G 0))]) hx hb d_M_inPlace_33 hl rfl rfl (by decide) rfl (fun ls hl => ?_)
        refine lv_goto (tgt := 4) hx hb d_M_inPlace_36 rfl ?_
        exact ih (i + 1) ls (by omega) (by rw [occ5_5 (fun z => nI_ge (b := 5) z (by omega) h14), ← nI_1]; exact lv_sub hl [1, 0, 2, 3] rfl)
      ·
        refine lv_aload_n hx hb d_M_inPlace_17 rfl (lv_at hl 3 rfl) ?_
        refine va_get (D := X.1) (ci := 6) (C := R_Model) (T := F_Model) (N := 24) hx hb hts hin_Model hown hK.1 hP 0 rw_0 rfl 7 (by decide) (hts _ (wd_2 161 rfl rfl)) (fun _ h9 => h9) rfl d_M_inPlace_18 ?_
        refine lv_iload_n hx hb d_M_inPlace_21 rfl (lv_at hl 1 rfl) ?_
        refine va_iald hx hb hK.1 hP 7 0 rw_7 rfl (vp_in_nI (n := i) (by omega) (by omega)) d_M_inPlace_22 ?_
        rw [nI_clamp (n := i) (by omega)]
        refine lv_iload_n hx hb d_M_inPlace_23 rfl (lv_at hl 2 rfl) ?_
        refine lv_icmp_ne (tgt := 31) hx hb d_M_inPlace_24 rfl (fun h24 => ?_) (fun h24 => ?_)
        ·
          refine lv_iload_n hx hb d_M_inPlace_31 rfl (lv_at hl 0 rfl) ?_
          refine lv_istore_n (lv' := [(2, .int (occ5 A q i)), (3, .int (nI i)), (1, .int (nI q)), (0, .ref (rA_ad G 0))]) hx hb d_M_inPlace_32 rfl hl (by decide) rfl (fun ls hl => ?_)
          refine lv_iinc (k := 1) (v := (nI i + 1)) (lv' := [(3, .int (nI i + 1)), (2, .int (occ5 A q i)), (1, .int (nI q)), (0, .ref (rA_ad G 0))]) hx hb d_M_inPlace_33 hl rfl rfl (by decide) rfl (fun ls hl => ?_)
          refine lv_goto (tgt := 4) hx hb d_M_inPlace_36 rfl ?_
          exact ih (i + 1) ls (by omega) (by rw [occ5_n (fun z => h24 (by rw [z])), ← nI_1]; exact lv_sub hl [1, 0, 2, 3] rfl)
        ·
          refine lv_iload_n hx hb d_M_inPlace_27 rfl (lv_at hl 1 rfl) ?_
          refine lv_goto (tgt := 32) hx hb d_M_inPlace_28 rfl ?_
          refine lv_istore_n (lv' := [(2, .int (nI i)), (3, .int (nI i)), (1, .int (nI q)), (0, .ref (rA_ad G 0))]) hx hb d_M_inPlace_32 rfl hl (by decide) rfl (fun ls hl => ?_)
          refine lv_iinc (k := 1) (v := (nI i + 1)) (lv' := [(3, .int (nI i + 1)), (2, .int (nI i)), (1, .int (nI q)), (0, .ref (rA_ad G 0))]) hx hb d_M_inPlace_33 hl rfl rfl (by decide) rfl (fun ls hl => ?_)
          refine lv_goto (tgt := 4) hx hb d_M_inPlace_36 rfl ?_
          exact ih (i + 1) ls (by omega) (by rw [occ5_y (Nat.lt_of_not_le fun z => h14 (nI_le (a := 5) z (by omega))) ((nI_eq (by omega) (by omega)).mp h24), ← nI_1]; exact lv_sub hl [1, 0, 2, 3] rfl)
set_option maxRecDepth 20000 in
set_option maxHeartbeats 4000000 in
theorem c_M_inPlace (l : Launch) (X : Xt) (G : Gr) (A : St) (q : Nat) (hI : Inv A) (hq : q < 6) : Met l y_M_inPlace (Cond.code y_M_inPlace b_M_inPlace 4 (some .int) :: WA) rm_M_inPlace (va_Pc [.ref (rA_ad G 0), .int (nI q)] (fun U => QR X G A U.heap ∧ KK X U)) (vp_Si (fun ans => ans = inP A q)) 0 0 (fun _ => False) := by
  refine vx_met (cc := b_M_inPlace) (maxL := 4) (ret := (some .int)) (by decide) rfl (Nat.le_of_ble_eq_true rfl) ?_
  intro p e s m below meth c ls hx hb hrt hts hown hlocks hname hml hB hl
  obtain ⟨hP, hK⟩ := hB
  have hown : s.vm.findClass R_Model = some m.cls := hown
  have hl : lv_has ls 4 [(0, .ref (rA_ad G 0)), (1, .int (nI q))] := hl
  have hP : va_P X.1 classes (rw_ X G A) s.heap := hP
  refine lv_iconst (v := (-1)) hx hb d_M_inPlace_0 rfl ?_
  refine lv_istore_n (lv' := [(2, .int (-1)), (0, .ref (rA_ad G 0)), (1, .int (nI q))]) hx hb d_M_inPlace_1 rfl hl (by decide) rfl (fun ls hl => ?_)
  refine lv_iconst (v := 0) hx hb d_M_inPlace_2 rfl ?_
  refine lv_istore_n (lv' := [(3, .int 0), (2, .int (-1)), (0, .ref (rA_ad G 0)), (1, .int (nI q))]) hx hb d_M_inPlace_3 rfl hl (by decide) rfl (fun ls hl => ?_)
  refine lp_M_inPlace (X := X) hx hb hts hown hml hK hI hq hP (fun ls hl => ?_) (sA_n A) 0 ls (by omega) (by rw [occ5_0]; exact lv_sub hl [1, 0, 3, 2] rfl)
  refine lv_iload_n hx hb d_M_inPlace_39 rfl (lv_at hl 0 rfl) ?_
  exact W.iret (v := inP A q) hx hb hrt (fun t ht hW => ⟨_, rfl, rfl, ht⟩) (fun q h => by cases h) d_M_inPlace_40
abbrev rm_M_in : Room := { frames := 1, cells := 0, slots := 0, locals := 23 }
set_option maxRecDepth 20000 in
set_option maxHeartbeats 4000000 in
theorem c_M_in (l : Launch) (X : Xt) (G : Gr) (A : St) (x : Int32) (hI : Inv A) : Met l y_M_in (Cond.code y_M_in b_M_in 2 (some .int) :: WA) rm_M_in (va_Pc [.ref (rA_ad G 0), .int x] (fun U => QR X G A U.heap ∧ KK X U)) (vp_Si (fun ans => ans = inF A x)) 0 0 (fun _ => False) := by
  refine vx_met (cc := b_M_in) (maxL := 2) (ret := (some .int)) (by decide) rfl (Nat.le_of_ble_eq_true rfl) ?_
  intro p e s m below meth c ls hx hb hrt hts hown hlocks hname hml hB hl
  obtain ⟨hP, hK⟩ := hB
  have hown : s.vm.findClass R_Model = some m.cls := hown
  have hl : lv_has ls 2 [(0, .ref (rA_ad G 0)), (1, .int x)] := hl
  have hP : va_P X.1 classes (rw_ X G A) s.heap := hP
  have hn := hI.1
  have hR := hI.2.1
  refine lv_iload_n hx hb d_M_in_0 rfl (lv_at hl 1 rfl) ?_
  refine lv_if_lt (tgt := 17) hx hb d_M_in_1 rfl (fun h1 => ?_) (fun h1 => ?_)
  ·
    refine lv_iconst (v := (-1)) hx hb d_M_in_17 rfl ?_
    exact W.iret (v := (-1)) hx hb hrt (fun t ht hW => ⟨_, rfl, by rw [inF, if_neg (fun z => i32_le.mpr z.1 h1)], ht⟩) (fun q h => by cases h) d_M_in_18
  ·
    refine lv_iload_n hx hb d_M_in_4 rfl (lv_at hl 1 rfl) ?_
    refine lv_iconst (v := 5) hx hb d_M_in_5 rfl ?_
    refine lv_icmp_ge (tgt := 17) hx hb d_M_in_6 rfl (fun h6 => ?_) (fun h6 => ?_)
    ·
      refine lv_iconst (v := (-1)) hx hb d_M_in_17 rfl ?_
      exact W.iret (v := (-1)) hx hb hrt (fun t ht hW => ⟨_, rfl, by rw [inF, if_neg (fun z => i32_le.mpr h6 z.2)], ht⟩) (fun q h => by cases h) d_M_in_18
    ·
      obtain ⟨q, hq, rfl⟩ : ∃ q : Nat, q < 5 ∧ x = nI q := by
        obtain ⟨j, hj, rfl⟩ := nI_of h1
        exact ⟨j, Nat.lt_of_not_le fun z => h6 (nI_le (a := 5) z (by omega)), rfl⟩
      refine lv_aload_n hx hb d_M_in_9 rfl (lv_at hl 0 rfl) ?_
      refine lv_iload_n hx hb d_M_in_10 rfl (lv_at hl 1 rfl) ?_
      refine vp_callSi (W.runV (As := [.int (nI q)]) (rest := []) ⟨hx, hb, hml, hown, hts⟩ (c_M_inPlace l X G A q hI (by omega)) (cwV 1 hts (gV (wd_3 62 rfl rfl) (wd_3 64 rfl rfl) (wd_s 23 rfl) (wd_1 6 rfl rfl) (wd_3 65 rfl rfl)) rfl rfl rfl ⟨rfl, hd_M_inPlace⟩ ⟨Nat.le_of_ble_eq_true rfl, Nat.le_of_ble_eq_true rfl⟩) (vx_preV (P := QR X G A) hP hK (va_recv hK.1 hP (ci := 6) rfl rw_0)) rfl rfl hl.1 rfl (lv_room (Nat.le_of_ble_eq_true rfl)) d_M_in_11 ⟨Nat.zero_le _, Nat.zero_le _⟩) (fun r11 e11 => ?_)
      subst e11
      refine lv_goto (tgt := 18) hx hb d_M_in_14 rfl ?_
      exact W.iret (v := inP A q) hx hb hrt (fun t ht hW => ⟨_, rfl, by rw [inF, if_pos ⟨nI_pos' (by omega), nI_lt (b := 5) hq (by omega)⟩, nI_clamp (by omega)], ht⟩) (fun q h => by cases h) d_M_in_18
abbrev rm_M_situation : Room := { frames := 1, cells := 0, slots := 0, locals := 22 }
set_option maxRecDepth 20000 in
set_option maxHeartbeats 4000000 in
theorem lp_M_situation {p : Program} {l : Launch} {e : Env} {s : State} {m : MethodId} {args : Array Value} {below : List Frame} {meth : Method} {c : Code} {Q : State → Prop} {X : Xt} {G : Gr} {A : St} (hx : p.tables.exec = Jvm.exec) (hb : c.code = b_M_situation) (hts : ∀ w ∈ Cond.code y_M_situation b_M_situation 3 (some .int) :: WA, w.before args s = true) (hown : s.vm.findClass R_Model = some m.cls) (hml : c.maxLocals = 3) (hK : KK X s) (hI : Inv A) (hP : va_P X.1 classes (rw_ X G A) s.heap) (kont : ∀ ls : Array Slot, lv_has ls 3 [(1, .int (nI (enc9 (sit9 A))))] → W p l e rm_M_situation s m args below meth c s.heap [] 0 0 Q (F0 m 50 ls [])) : ∀ (r i : Nat) (ls : Array Slot), i + r = sA_n A → lv_has ls 3 [(1, .int (nI (enc9 (sitK A i)))), (2, .int (nI i)), (0, .ref (rA_ad G 0))] → W p l e rm_M_situation s m args below meth c s.heap [] 0 0 Q (F0 m 4 ls []) := by
  have hn := hI.1
  have hR := hI.2.1
  intro r
  induction r with
  | zero =>
    intro i ls hi hl
    have hi : i = sA_n A := by omega
    subst hi
    refine lv_iload_n hx hb d_M_situation_4 rfl (lv_at hl 1 rfl) ?_
    refine lv_aload_n hx hb d_M_situation_5 rfl (lv_at hl 2 rfl) ?_
    refine va_get (D := X.1) (ci := 6) (C := R_Model) (T := F_Model) (N := 24) hx hb hts hin_Model hown hK.1 hP 0 rw_0 rfl 4 (by decide) (hts _ (wd_2 158 rfl rfl)) (fun _ h9 => h9) rfl d_M_situation_6 ?_
    refine lv_icmp_ge (tgt := 50) hx hb d_M_situation_9 rfl (fun h9 => ?_) (fun h9 => ?_)
    ·
      exact kont ls (lv_sub hl [0] rfl)
    ·
      exact absurd (Int32.le_refl _) h9
  | succ r ih =>
    intro i ls hi hl
    have hin : i < sA_n A := by omega
    obtain ⟨w1, w2, w3, w4, w5, -⟩ := hI.2.2.1 i hin
    have wl := hR.1 (sA_rt A i)
    refine lv_iload_n hx hb d_M_situation_4 rfl (lv_at hl 1 rfl) ?_
    refine lv_aload_n hx hb d_M_situation_5 rfl (lv_at hl 2 rfl) ?_
    refine va_get (D := X.1) (ci := 6) (C := R_Model) (T := F_Model) (N := 24) hx hb hts hin_Model hown hK.1 hP 0 rw_0 rfl 4 (by decide) (hts _ (wd_2 158 rfl rfl)) (fun _ h9 => h9) rfl d_M_situation_6 ?_
    refine lv_icmp_ge (tgt := 50) hx hb d_M_situation_9 rfl (fun h9 => ?_) (fun h9 => ?_)
    ·
      exact absurd h9 (nI_ge hin (by omega))
    ·
      refine lv_aload_n hx hb d_M_situation_12 rfl (lv_at hl 2 rfl) ?_
      refine va_get (D := X.1) (ci := 6) (C := R_Model) (T := F_Model) (N := 24) hx hb hts hin_Model hown hK.1 hP 0 rw_0 rfl 7 (by decide) (hts _ (wd_2 161 rfl rfl)) (fun _ h9 => h9) rfl d_M_situation_13 ?_
      refine lv_iload_n hx hb d_M_situation_16 rfl (lv_at hl 1 rfl) ?_
      refine va_iald hx hb hK.1 hP 7 0 rw_7 rfl (vp_in_nI (n := i) (by omega) (by omega)) d_M_situation_17 ?_
      rw [nI_clamp (n := i) (by omega)]
      refine lv_iconst (v := 5) hx hb d_M_situation_18 rfl ?_
      refine lv_icmp_ge (tgt := 42) hx hb d_M_situation_19 rfl (fun h19 => ?_) (fun h19 => ?_)
      ·
        refine lv_iload_n hx hb d_M_situation_42 rfl (lv_at hl 0 rfl) ?_
        refine lv_istore_n (lv' := [(1, .int (nI (enc9 (sitK A i)))), (2, .int (nI i)), (0, .ref (rA_ad G 0))]) hx hb d_M_situation_43 rfl hl (by decide) rfl (fun ls hl => ?_)
        refine lv_iinc (k := 1) (v := (nI i + 1)) (lv' := [(2, .int (nI i + 1)), (1, .int (nI (enc9 (sitK A i)))), (0, .ref (rA_ad G 0))]) hx hb d_M_situation_44 hl rfl rfl (by decide) rfl (fun ls hl => ?_)
        refine lv_goto (tgt := 4) hx hb d_M_situation_47 rfl ?_
        exact ih (i + 1) ls (by omega) (by rw [sitK_no (fun z => nI_ge (b := 5) z (by omega) h19), ← nI_1]; exact lv_sub hl [1, 0, 2] rfl)
      ·
        refine lv_iload_n hx hb d_M_situation_22 rfl (lv_at hl 0 rfl) ?_
        refine lv_aload_n hx hb d_M_situation_23 rfl (lv_at hl 2 rfl) ?_
        refine va_get (D := X.1) (ci := 6) (C := R_Model) (T := F_Model) (N := 24) hx hb hts hin_Model hown hK.1 hP 0 rw_0 rfl 7 (by decide) (hts _ (wd_2 161 rfl rfl)) (fun _ h9 => h9) rfl d_M_situation_24 ?_
        refine lv_iload_n hx hb d_M_situation_27 rfl (lv_at hl 1 rfl) ?_
        refine va_iald hx hb hK.1 hP 7 0 rw_7 rfl (vp_in_nI (n := i) (by omega) (by omega)) d_M_situation_28 ?_
        rw [nI_clamp (n := i) (by omega)]
        refine vp_callSi (W.runS (As := [.int (nI (sA_pl A i))]) (rest := [.int (nI (enc9 (sitK A i)))]) ⟨hx, hb, hml, hown, hts⟩ (c_M_power l X (sA_pl A i) (by omega)) (va_cwS 1 hts (gT (wd_3 7 rfl rfl) (wd_3 8 rfl rfl) (wd_1 6 rfl rfl) (wd_3 9 rfl rfl)) rfl rfl rfl hd_M_power ⟨Nat.le_of_ble_eq_true rfl, Nat.le_of_ble_eq_true rfl⟩) (vx_preS (P := fun _ => True) trivial hK) rfl rfl hl.1 rfl (lv_room (Nat.le_of_ble_eq_true rfl)) d_M_situation_29 ⟨Nat.zero_le _, Nat.zero_le _⟩) (fun r29 e29 => ?_)
        subst e29
        refine lv_aload_n hx hb d_M_situation_32 rfl (lv_at hl 2 rfl) ?_
        refine lv_iload_n hx hb d_M_situation_33 rfl (lv_at hl 1 rfl) ?_
        refine vp_callSi (W.runV (As := [.int (nI i)]) (rest := [.int (f_M_power (sA_pl A i)), .int (nI (enc9 (sitK A i)))]) ⟨hx, hb, hml, hown, hts⟩ (c_M_digitOf l X G A i hI hin) (cwV 1 hts (gV (wd_3 10 rfl rfl) (wd_3 12 rfl rfl) (wd_s 14 rfl) (wd_1 6 rfl rfl) (wd_3 13 rfl rfl)) rfl rfl rfl ⟨rfl, hd_M_digitOf⟩ ⟨Nat.le_of_ble_eq_true rfl, Nat.le_of_ble_eq_true rfl⟩) (vx_preV (P := QR X G A) hP hK (va_recv hK.1 hP (ci := 6) rfl rw_0)) rfl rfl hl.1 rfl (lv_room (Nat.le_of_ble_eq_true rfl)) d_M_situation_34 ⟨Nat.zero_le _, Nat.zero_le _⟩) (fun r34 e34 => ?_)
        subst e34
        refine lv_imul hx hb d_M_situation_37 ?_
        refine lv_iadd hx hb d_M_situation_38 ?_
        refine lv_goto (tgt := 43) hx hb d_M_situation_39 rfl ?_
        refine lv_istore_n (lv' := [(1, .int ((nI (enc9 (sitK A i))) + ((f_M_power (sA_pl A i)) * (f_M_digitOf A i)))), (2, .int (nI i)), (0, .ref (rA_ad G 0))]) hx hb d_M_situation_43 rfl hl (by decide) rfl (fun ls hl => ?_)
        refine lv_iinc (k := 1) (v := (nI i + 1)) (lv' := [(2, .int (nI i + 1)), (1, .int ((nI (enc9 (sitK A i))) + ((f_M_power (sA_pl A i)) * (f_M_digitOf A i)))), (0, .ref (rA_ad G 0))]) hx hb d_M_situation_44 hl rfl rfl (by decide) rfl (fun ls hl => ?_)
        refine lv_goto (tgt := 4) hx hb d_M_situation_47 rfl ?_
        exact ih (i + 1) ls (by omega) (by rw [← sitK_go hI hin (Nat.lt_of_not_le fun z => h19 (nI_le (a := 5) z (by omega))), ← nI_1]; exact lv_sub hl [1, 0, 2] rfl)
set_option maxRecDepth 20000 in
set_option maxHeartbeats 4000000 in
theorem c_M_situation (l : Launch) (X : Xt) (G : Gr) (A : St) (hI : Inv A) : Met l y_M_situation (Cond.code y_M_situation b_M_situation 3 (some .int) :: WA) rm_M_situation (va_Pc [.ref (rA_ad G 0)] (fun U => QR X G A U.heap ∧ KK X U)) (vp_Si (fun ans => ans = f_M_situation A)) 0 0 (fun _ => False) := by
  refine vx_met (cc := b_M_situation) (maxL := 3) (ret := (some .int)) (by decide) rfl (Nat.le_of_ble_eq_true rfl) ?_
  intro p e s m below meth c ls hx hb hrt hts hown hlocks hname hml hB hl
  obtain ⟨hP, hK⟩ := hB
  have hown : s.vm.findClass R_Model = some m.cls := hown
  have hl : lv_has ls 3 [(0, .ref (rA_ad G 0))] := hl
  have hP : va_P X.1 classes (rw_ X G A) s.heap := hP
  refine lv_iconst (v := 0) hx hb d_M_situation_0 rfl ?_
  refine lv_istore_n (lv' := [(1, .int 0), (0, .ref (rA_ad G 0))]) hx hb d_M_situation_1 rfl hl (by decide) rfl (fun ls hl => ?_)
  refine lv_iconst (v := 0) hx hb d_M_situation_2 rfl ?_
  refine lv_istore_n (lv' := [(2, .int 0), (1, .int 0), (0, .ref (rA_ad G 0))]) hx hb d_M_situation_3 rfl hl (by decide) rfl (fun ls hl => ?_)
  refine lp_M_situation (X := X) hx hb hts hown hml hK hI hP (fun ls hl => ?_) (sA_n A) 0 ls (by omega) (by rw [enc9_0]; exact lv_sub hl [1, 0, 2] rfl)
  refine lv_iload_n hx hb d_M_situation_50 rfl (lv_at hl 0 rfl) ?_
  exact W.iret (v := nI (enc9 (sit9 A))) hx hb hrt (fun t ht hW => ⟨_, rfl, rfl, ht⟩) (fun q h => by cases h) d_M_situation_51
abbrev rm_M_isEmpty : Room := { frames := 2, cells := 0, slots := 0, locals := 43 }
set_option maxRecDepth 20000 in
set_option maxHeartbeats 4000000 in
theorem lp_M_isEmpty {p : Program} {l : Launch} {e : Env} {s : State} {m : MethodId} {args : Array Value} {below : List Frame} {meth : Method} {c : Code} {Q : State → Prop} {X : Xt} {G : Gr} {A : St} {a : Nat} (hx : p.tables.exec = Jvm.exec) (hb : c.code = b_M_isEmpty) (hts : ∀ w ∈ Cond.code y_M_isEmpty b_M_isEmpty 4 (some .boolean) :: WA, w.before args s = true) (hown : s.vm.findClass R_Model = some m.cls) (hml : c.maxLocals = 4) (hK : KK X s) (hR : rOk A) (ha : a < 59049) (hP : va_P X.1 classes (rw_ X G A) s.heap) (kont : ∀ ls : Array Slot, lv_has ls 4 [(2, .int (b2i (emK (envA A) (dig9 a) 5)))] → W p l e rm_M_isEmpty s m args below meth c s.heap [] 0 0 Q (F0 m 47 ls [])) : ∀ (r i : Nat) (ls : Array Slot), i + r = 5 → lv_has ls 4 [(2, .int (b2i (emK (envA A) (dig9 a) i))), (3, .int (nI i)), (1, .int (nI a)), (0, .ref (rA_ad G 0))] → W p l e rm_M_isEmpty s m args below meth c s.heap [] 0 0 Q (F0 m 4 ls []) := by
  intro r
  induction r with
  | zero =>
    intro i ls hi hl
    have hi : i = 5 := by omega
    subst hi
    refine lv_iload_n hx hb d_M_isEmpty_4 rfl (lv_at hl 1 rfl) ?_
    refine lv_iconst (v := 5) hx hb d_M_isEmpty_5 rfl ?_
    refine lv_icmp_ge (tgt := 47) hx hb d_M_isEmpty_6 rfl (fun h6 => ?_) (fun h6 => ?_)
    ·
      exact kont ls (lv_sub hl [0] rfl)
    ·
      exact absurd (by decide) h6
  | succ r ih =>
    intro i ls hi hl
    refine lv_iload_n hx hb d_M_isEmpty_4 rfl (lv_at hl 1 rfl) ?_
    refine lv_iconst (v := 5) hx hb d_M_isEmpty_5 rfl ?_
    refine lv_icmp_ge (tgt := 47) hx hb d_M_isEmpty_6 rfl (fun h6 => ?_) (fun h6 => ?_)
    ·
      exact absurd h6 (nI_ge (b := 5) (by omega) (by omega))
    ·
      refine lv_iload_n hx hb d_M_isEmpty_9 rfl (lv_at hl 0 rfl) ?_
      refine lv_if_eq (tgt := 39) hx hb d_M_isEmpty_10 rfl (fun h10 => ?_) (fun h10 => ?_)
      ·
        have h10 := b2i_f h10
        refine lv_iconst (v := 0) hx hb d_M_isEmpty_39 rfl ?_
        refine lv_istore_n (lv' := [(2, .int 0), (3, .int (nI i)), (1, .int (nI a)), (0, .ref (rA_ad G 0))]) hx hb d_M_isEmpty_40 rfl hl (by decide) rfl (fun ls hl => ?_)
        refine lv_iinc (k := 1) (v := (nI i + 1)) (lv' := [(3, .int (nI i + 1)), (2, .int 0), (1, .int (nI a)), (0, .ref (rA_ad G 0))]) hx hb d_M_isEmpty_41 hl rfl rfl (by decide) rfl (fun ls hl => ?_)
        refine lv_goto (tgt := 4) hx hb d_M_isEmpty_44 rfl ?_
        exact ih (i + 1) ls (by omega) (by rw [em_n1 h10, ← nI_1]; exact lv_sub hl [1, 0, 2, 3] rfl)
      ·
        have h10 := b2i_t h10
        refine lv_iload_n hx hb d_M_isEmpty_13 rfl (lv_at hl 2 rfl) ?_
        refine lv_iload_n hx hb d_M_isEmpty_14 rfl (lv_at hl 1 rfl) ?_
        refine vp_callSi (W.runS (As := [.int (nI a), .int (nI i)]) (rest := []) ⟨hx, hb, hml, hown, hts⟩ (c_M_digit l X a i ha (by omega)) (va_cwS 2 hts (gT (wd_3 26 rfl rfl) (wd_3 27 rfl rfl) (wd_1 6 rfl rfl) (wd_3 28 rfl rfl)) rfl rfl rfl hd_M_digit ⟨Nat.le_of_ble_eq_true rfl, Nat.le_of_ble_eq_true rfl⟩) (vx_preS (P := fun _ => True) trivial hK) rfl rfl hl.1 rfl (lv_room (Nat.le_of_ble_eq_true rfl)) d_M_isEmpty_15 ⟨Nat.zero_le _, Nat.zero_le _⟩) (fun r15 e15 => ?_)
        subst e15
        refine lv_if_eq (tgt := 35) hx hb d_M_isEmpty_18 rfl (fun h18 => ?_) (fun h18 => ?_)
        ·
          refine lv_iconst (v := 1) hx hb d_M_isEmpty_35 rfl ?_
          refine lv_goto (tgt := 40) hx hb d_M_isEmpty_36 rfl ?_
          refine lv_istore_n (lv' := [(2, .int 1), (3, .int (nI i)), (1, .int (nI a)), (0, .ref (rA_ad G 0))]) hx hb d_M_isEmpty_40 rfl hl (by decide) rfl (fun ls hl => ?_)
          refine lv_iinc (k := 1) (v := (nI i + 1)) (lv' := [(3, .int (nI i + 1)), (2, .int 1), (1, .int (nI a)), (0, .ref (rA_ad G 0))]) hx hb d_M_isEmpty_41 hl rfl rfl (by decide) rfl (fun ls hl => ?_)
          refine lv_goto (tgt := 4) hx hb d_M_isEmpty_44 rfl ?_
          exact ih (i + 1) ls (by omega) (by rw [em_y1 h10 (show i < 5 by omega) h18, ← nI_1]; exact lv_sub hl [1, 0, 2, 3] rfl)
        ·
          refine lv_iload_n hx hb d_M_isEmpty_21 rfl (lv_at hl 1 rfl) ?_
          refine lv_iconst (v := 4) hx hb d_M_isEmpty_22 rfl ?_
          refine lv_icmp_ge (tgt := 39) hx hb d_M_isEmpty_23 rfl (fun h23 => ?_) (fun h23 => ?_)
          ·
            refine lv_iconst (v := 0) hx hb d_M_isEmpty_39 rfl ?_
            refine lv_istore_n (lv' := [(2, .int 0), (3, .int (nI i)), (1, .int (nI a)), (0, .ref (rA_ad G 0))]) hx hb d_M_isEmpty_40 rfl hl (by decide) rfl (fun ls hl => ?_)
            refine lv_iinc (k := 1) (v := (nI i + 1)) (lv' := [(3, .int (nI i + 1)), (2, .int 0), (1, .int (nI a)), (0, .ref (rA_ad G 0))]) hx hb d_M_isEmpty_41 hl rfl rfl (by decide) rfl (fun ls hl => ?_)
            refine lv_goto (tgt := 4) hx hb d_M_isEmpty_44 rfl ?_
            exact ih (i + 1) ls (by omega) (by rw [em_n2 (show i < 5 by omega) h18 (ge4 (by omega) h23), ← nI_1]; exact lv_sub hl [1, 0, 2, 3] rfl)
          ·
            refine lv_aload_n hx hb d_M_isEmpty_26 rfl (lv_at hl 3 rfl) ?_
            refine va_get (D := X.1) (ci := 6) (C := R_Model) (T := F_Model) (N := 24) hx hb hts hin_Model hown hK.1 hP 0 rw_0 rfl 14 (by decide) (hts _ (wd_2 168 rfl rfl)) (fun _ h9 => h9) rfl d_M_isEmpty_27 ?_
            refine lv_iload_n hx hb d_M_isEmpty_30 rfl (lv_at hl 1 rfl) ?_
            refine va_zald hx hb hK.1 hP 14 2 rw_14 rfl (vp_in_nI (n := i) (by have := lt4 (by omega) h23; omega) (by omega)) d_M_isEmpty_31 ?_
            rw [nI_clamp (n := i) (by omega)]
            refine lv_if_eq (tgt := 39) hx hb d_M_isEmpty_32 rfl (fun h32 => ?_) (fun h32 => ?_)
            ·
              have h32 := b2i_f h32
              refine lv_iconst (v := 0) hx hb d_M_isEmpty_39 rfl ?_
              refine lv_istore_n (lv' := [(2, .int 0), (3, .int (nI i)), (1, .int (nI a)), (0, .ref (rA_ad G 0))]) hx hb d_M_isEmpty_40 rfl hl (by decide) rfl (fun ls hl => ?_)
              refine lv_iinc (k := 1) (v := (nI i + 1)) (lv' := [(3, .int (nI i + 1)), (2, .int 0), (1, .int (nI a)), (0, .ref (rA_ad G 0))]) hx hb d_M_isEmpty_41 hl rfl rfl (by decide) rfl (fun ls hl => ?_)
              refine lv_goto (tgt := 4) hx hb d_M_isEmpty_44 rfl ?_
              exact ih (i + 1) ls (by omega) (by rw [em_n3 (show i < 5 by omega) h18 h32, ← nI_1]; exact lv_sub hl [1, 0, 2, 3] rfl)
            ·
              have h32 := b2i_t h32
              refine lv_iconst (v := 1) hx hb d_M_isEmpty_35 rfl ?_
              refine lv_goto (tgt := 40) hx hb d_M_isEmpty_36 rfl ?_
              refine lv_istore_n (lv' := [(2, .int 1), (3, .int (nI i)), (1, .int (nI a)), (0, .ref (rA_ad G 0))]) hx hb d_M_isEmpty_40 rfl hl (by decide) rfl (fun ls hl => ?_)
              refine lv_iinc (k := 1) (v := (nI i + 1)) (lv' := [(3, .int (nI i + 1)), (2, .int 1), (1, .int (nI a)), (0, .ref (rA_ad G 0))]) hx hb d_M_isEmpty_41 hl rfl rfl (by decide) rfl (fun ls hl => ?_)
              refine lv_goto (tgt := 4) hx hb d_M_isEmpty_44 rfl ?_
              exact ih (i + 1) ls (by omega) (by rw [em_y2 h10 (lt4 (by omega) h23) h32, ← nI_1]; exact lv_sub hl [1, 0, 2, 3] rfl)
set_option maxRecDepth 20000 in
set_option maxHeartbeats 4000000 in
theorem c_M_isEmpty (l : Launch) (X : Xt) (G : Gr) (A : St) (a : Nat) (hR : rOk A) (ha : a < 59049) : Met l y_M_isEmpty (Cond.code y_M_isEmpty b_M_isEmpty 4 (some .boolean) :: WA) rm_M_isEmpty (va_Pc [.ref (rA_ad G 0), .int (nI a)] (fun U => QR X G A U.heap ∧ KK X U)) (vp_Si (fun ans => ans = b2i (f_M_isEmpty A a))) 0 0 (fun _ => False) := by
  refine vx_met (cc := b_M_isEmpty) (maxL := 4) (ret := (some .boolean)) (by decide) rfl (Nat.le_of_ble_eq_true rfl) ?_
  intro p e s m below meth c ls hx hb hrt hts hown hlocks hname hml hB hl
  obtain ⟨hP, hK⟩ := hB
  have hown : s.vm.findClass R_Model = some m.cls := hown
  have hl : lv_has ls 4 [(0, .ref (rA_ad G 0)), (1, .int (nI a))] := hl
  have hP : va_P X.1 classes (rw_ X G A) s.heap := hP
  refine lv_iconst (v := 1) hx hb d_M_isEmpty_0 rfl ?_
  refine lv_istore_n (lv' := [(2, .int 1), (0, .ref (rA_ad G 0)), (1, .int (nI a))]) hx hb d_M_isEmpty_1 rfl hl (by decide) rfl (fun ls hl => ?_)
  refine lv_iconst (v := 0) hx hb d_M_isEmpty_2 rfl ?_
  refine lv_istore_n (lv' := [(3, .int 0), (2, .int 1), (0, .ref (rA_ad G 0)), (1, .int (nI a))]) hx hb d_M_isEmpty_3 rfl hl (by decide) rfl (fun ls hl => ?_)
  refine lp_M_isEmpty (X := X) (a := a) hx hb hts hown hml hK hR ha hP (fun ls hl => ?_) 5 0 ls (by omega) (lv_sub hl [1, 0, 3, 2] rfl)
  refine lv_iload_n hx hb d_M_isEmpty_47 rfl (lv_at hl 0 rfl) ?_
  exact W.zret (v := b2i (emK (envA A) (dig9 a) 5)) hx hb hrt (b2i_nar _) (fun t ht hW => ⟨_, rfl, rfl, ht⟩) (fun q h => by cases h) d_M_isEmpty_48
