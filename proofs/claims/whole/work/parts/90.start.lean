set_option maxRecDepth 20000 in
set_option maxHeartbeats 4000000 in
theorem lw_body {p : Program} {e : Env} {s : State} {m : MethodId} {below : List Frame} {meth : Method} {c : Code} {ls : Array Slot} (l : Launch) {b L : Nat} {xs : Nat → Int32} (hL : L ≤ 2560) (C0 : lw_At p s m meth c b L xs) (hl : lv_has ls 4 [(0, .ref b)]) : W p l e room_1 s m #[Value.ref b] below meth c s.heap [] 0 0 (lw_Z below #[Value.ref b] s) (F0 m 0 ls []) := by
  obtain ⟨hx, hb, hrt, hml, hown, ht0, hX, hbl, hlocks, hgv⟩ := C0
  obtain ⟨X, hK⟩ := KK_of ht0
  have hts : ∀ w ∈ Cond.initialized "ClusterTool" :: WA, w.before #[Value.ref b] s = true := fun w hw => by
    rcases List.mem_cons.mp hw with rfl | h
    · exact ht0 _ (lt_1 1 rfl)
    · exact ht0 w (List.mem_filter.mp h).1
  have hP0 : va_P X.1 classes ([] : va_W) s.heap := fun k q hq => by cases hq
  have hD0 : va_D (fun q => s.heap.size ≤ q) ([] : va_W) := ⟨(fun i j x y hx => by cases hx), (fun k q hq => by cases hq)⟩
  have hS : va_S (fun q => s.heap.size ≤ q) s.heap s.heap [] := va_S.rf
  refine va_new (ci := 0) (fs := [.null, .null, .null, .null, .null, .null, .int 0, .int 0]) (C := R_ClusterTool) (T := F_ClusterTool) (N := 8) hx hb hts hin_ClusterTool t_ClusterTool t_ClusterTool_ok hown (hts _ (wd_1 11 rfl rfl)) (hts _ (wd_1 12 rfl rfl)) (hts _ (wd_1 1 rfl rfl)) hK.1 hP0 hD0 hS (fun q h => h) rfl (fun j hj => by rcases (show j = 0 ∨ j = 1 ∨ j = 2 ∨ j = 3 ∨ j = 4 ∨ j = 5 ∨ j = 6 ∨ j = 7 by omega) with rfl | rfl | rfl | rfl | rfl | rfl | rfl | rfl <;> rfl) (Nat.le_of_ble_eq_true rfl) (Nat.le_of_ble_eq_true rfl) d_law_0 (fun q0 H hP hD hS => ?_)
  refine lv_dup hx hb d_law_3 rfl ?_
  refine va_callv (va_runI (As := []) (rest := [.ref q0]) ⟨hx, hb, hml, hown, hts⟩ (c_T_init l X (fun q => s.heap.size ≤ q) q0) (cwI 0 hts (gC (wd_1 15 rfl rfl) rfl) rfl rfl rfl (hts _ (wd_1 1 rfl rfl)) (hts _ (wd_1 13 rfl rfl)) (hts _ (wd_1 14 rfl rfl)) rfl hd_T_init ⟨Nat.le_of_ble_eq_true rfl, Nat.le_of_ble_eq_true rfl⟩) (vx_preS (P := PL X (fun q => s.heap.size ≤ q) (([] : va_W) ++ [(q0, .inr (0, [.null, .null, .null, .null, .null, .null, .int 0, .int 0]))])) ⟨hP, hD, fun q hq => Nat.le_trans hS.1 hq⟩ hK) rfl rfl hl.1 rfl (lv_room (Nat.le_of_ble_eq_true rfl)) d_law_4 ⟨Nat.le_of_ble_eq_true rfl, Nat.le_of_ble_eq_true rfl⟩) hS (fun q _ h => h) (fun q h => h) (fun u4 t4 H locs ht hvm hu4 hB hz hk hS => ?_)
  obtain ⟨hP4, hD4⟩ := hB
  rw [ht] at hP4
  subst hu4
  refine lv_astore_n (lv' := [(1, .ref (u4 0)), (0, .ref b)]) hx hb d_law_7 rfl hl (by decide) rfl (fun ls hl => ?_)
  refine va_new (ci := 6) (fs := [.null, .null, .null, .null, .int 0, .null, .null, .null, .null, .null, .null, .null, .null, .null, .null, .int 0, .int 0, .int 0, .int 0, .int 0, .null, .int 0, .null, .null]) (C := R_Model) (T := F_Model) (N := 24) hx hb hts hin_Model t_Model t_Model_ok hown (hts _ (wd_2 148 rfl rfl)) (hts _ (wd_2 149 rfl rfl)) (hts _ (wd_1 6 rfl rfl)) hK.1 hP4 hD4 hS (fun q h => h) rfl (fun j hj => by rcases (show j = 0 ∨ j = 1 ∨ j = 2 ∨ j = 3 ∨ j = 4 ∨ j = 5 ∨ j = 6 ∨ j = 7 ∨ j = 8 ∨ j = 9 ∨ j = 10 ∨ j = 11 ∨ j = 12 ∨ j = 13 ∨ j = 14 ∨ j = 15 ∨ j = 16 ∨ j = 17 ∨ j = 18 ∨ j = 19 ∨ j = 20 ∨ j = 21 ∨ j = 22 ∨ j = 23 by omega) with rfl | rfl | rfl | rfl | rfl | rfl | rfl | rfl | rfl | rfl | rfl | rfl | rfl | rfl | rfl | rfl | rfl | rfl | rfl | rfl | rfl | rfl | rfl | rfl <;> rfl) (Nat.le_of_ble_eq_true rfl) (Nat.le_of_ble_eq_true rfl) d_law_8 (fun q8 H hP hD hS => ?_)
  refine lv_dup hx hb d_law_11 rfl ?_
  have hT : TW X s.heap.size [(q8, .inr (6, [.null, .null, .null, .null, .int 0, .null, .null, .null, .null, .null, .null, .null, .null, .null, .null, .int 0, .int 0, .int 0, .int 0, .int 0, .null, .int 0, .null, .null]))] (cw X (G00 u4) A00) H := (TW.split hP hD).swap
  refine va_callv (va_runI (As := []) (rest := [.ref q8]) ⟨hx, hb, hml, hown, hts⟩ (c_M_init l X (Ao s.heap.size (cw X (G00 u4) A00)) q8) (cwI 0 hts (gC (wd_2 152 rfl rfl) rfl) rfl rfl rfl (hts _ (wd_1 6 rfl rfl)) (hts _ (wd_2 150 rfl rfl)) (hts _ (wd_2 151 rfl rfl)) rfl hd_M_init ⟨Nat.le_of_ble_eq_true rfl, Nat.le_of_ble_eq_true rfl⟩) (vx_preS (P := PL X (Ao s.heap.size (cw X (G00 u4) A00)) (([] : va_W) ++ [(q8, .inr (6, [.null, .null, .null, .null, .int 0, .null, .null, .null, .null, .null, .null, .null, .null, .null, .null, .int 0, .int 0, .int 0, .int 0, .int 0, .null, .int 0, .null, .null]))])) ⟨hT.1, hT.d, hT.fresh hS.1⟩ hK) rfl rfl hl.1 rfl (lv_room (Nat.le_of_ble_eq_true rfl)) d_law_12 ⟨Nat.le_of_ble_eq_true rfl, Nat.le_of_ble_eq_true rfl⟩) hS (fun q _ h => h.1) (fun q h => h.1) (fun u12 t12 H locs ht hvm hu12 hB hz hk hS => ?_)
  obtain ⟨hP, hD⟩ := hB
  rw [ht] at hP
  replace hT := (hT.after hP hD hk).swap
  subst hu12
  refine lv_astore_n (lv' := [(2, .ref (u12 0)), (1, .ref (u4 0)), (0, .ref b)]) hx hb d_law_15 rfl hl (by decide) rfl (fun ls hl => ?_)
  refine lv_iconst (v := 0) hx hb d_law_16 rfl ?_
  refine lv_istore_n (lv' := [(3, .int 0), (2, .ref (u12 0)), (1, .ref (u4 0)), (0, .ref b)]) hx hb d_law_17 rfl hl (by decide) rfl (fun ls hl => ?_)
  refine W.widen (k := 36 + 4 * 0) (n := 6364 + 19 * 0) (by decide) (by decide) ?_
  refine lw_loop (X := X) hx hb hml hown hts hX hbl hL hK (fun k G A R H locs ls hk9 hS => ?_) 512 0 (G00 u4) A00 (R00 u12) H locs ls (by omega) (by omega) Inv_00 (RC_00 u4) (RR_00 u12) SNk_0 hT hS hl
  refine va_forget (fun q hq => hS.2.2 q hq) ?_
  refine W.widen (k := 600000) (n := 7302250) (by omega) (by omega) ?_
  refine lv_iconst (v := 1) hx hb d_law_605 rfl ?_
  exact lw_ret hx hb hrt hlocks d_law_606
theorem whole_start {p : Program} {e : Env} {s : State} {m : MethodId} {below : List Frame} {meth : Method} {c : Code} (l : Launch) {b L : Nat} {xs : Nat → Int32} (hL : L ≤ 2560) (C0 : lw_At p s m meth c b L xs) : W p l e room_1 s m #[Value.ref b] below meth c s.heap [] 0 0 (lw_Z below #[Value.ref b] s) (entryFrame m ([Value.ref b] : List Value).toArray 4) := by
  have hl := lv_entry [Value.ref b] (n := 4) (Nat.le_of_ble_eq_true rfl)
  rw [lg_entry_eq]
  exact lw_body l hL C0 hl
