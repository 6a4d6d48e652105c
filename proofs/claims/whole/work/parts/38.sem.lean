/-! What the class's helpers say of numbers of situations. Own work. -/
theorem nI_or (a b : Nat) : nI a ||| nI b = nI (a ||| b) := by
  apply Int32.toBitVec_inj.mp
  rw [Int32.toBitVec_or]
  show BitVec.ofNat 32 a ||| BitVec.ofNat 32 b = BitVec.ofNat 32 (a ||| b)
  exact BitVec.ofNat_or.symm
theorem or_mid {lo m hi K P : Nat} (k w : Nat) (hK : 2 ^ k = K) (hP : 2 ^ (k + w) = P) (hlo : lo < K) (hm : m * K + lo < P) : (hi * P + lo) ||| (m * K) = hi * P + m * K + lo := by
  subst hK; subst hP
  have h1 : 2 ^ (k + w) * hi + lo = 2 ^ (k + w) * hi ||| lo := Nat.two_pow_add_eq_or_of_lt (by omega) hi
  have h2 : 2 ^ k * m + lo = 2 ^ k * m ||| lo := Nat.two_pow_add_eq_or_of_lt hlo m
  have h3 : 2 ^ (k + w) * hi + (2 ^ k * m + lo) = 2 ^ (k + w) * hi ||| (2 ^ k * m + lo) := Nat.two_pow_add_eq_or_of_lt (by rw [Nat.mul_comm]; exact hm) hi
  rw [Nat.mul_comm hi, Nat.mul_comm m, h1, Nat.or_assoc, Nat.or_comm lo, ← h2, ← h3]
  omega
theorem or_enc {S : Nat → Nat} {q k : Nat} (hS : fitS S) (hq : q < 5) (h0 : S q = 0) (hk : k < 8 ∨ (q = 4 ∧ k < 16)) : enc S ||| (k * 8 ^ q) = enc (va_up S q k) := by
  have e := enc_up (S := S) (v := k) hq
  rw [h0] at e
  obtain ⟨f1, f2, -⟩ := hS
  have a0 := f1 0 (by omega)
  have a1 := f1 1 (by omega)
  have a2 := f1 2 (by omega)
  have a3 := f1 3 (by omega)
  rw [show enc (va_up S q k) = enc S + k * 8 ^ q by omega, enc_eq]
  rcases (show q = 0 ∨ q = 1 ∨ q = 2 ∨ q = 3 ∨ q = 4 by omega) with rfl | rfl | rfl | rfl | rfl
  · have := or_mid (lo := 0) (m := k) (hi := S 1 + 8 * S 2 + 64 * S 3 + 512 * S 4) (K := 1) (P := 8) 0 3 rfl rfl (by omega) (by omega)
    rw [show S 0 + 8 * S 1 + 64 * S 2 + 512 * S 3 + 4096 * S 4 = (S 1 + 8 * S 2 + 64 * S 3 + 512 * S 4) * 8 + 0 by omega, show k * 8 ^ 0 = k * 1 by rfl, this]
    omega
  · have := or_mid (lo := S 0) (m := k) (hi := S 2 + 8 * S 3 + 64 * S 4) (K := 8) (P := 64) 3 3 rfl rfl (by omega) (by omega)
    rw [show S 0 + 8 * S 1 + 64 * S 2 + 512 * S 3 + 4096 * S 4 = (S 2 + 8 * S 3 + 64 * S 4) * 64 + S 0 by omega, show k * 8 ^ 1 = k * 8 by rfl, this]
    omega
  · have := or_mid (lo := S 0 + 8 * S 1) (m := k) (hi := S 3 + 8 * S 4) (K := 64) (P := 512) 6 3 rfl rfl (by omega) (by omega)
    rw [show S 0 + 8 * S 1 + 64 * S 2 + 512 * S 3 + 4096 * S 4 = (S 3 + 8 * S 4) * 512 + (S 0 + 8 * S 1) by omega, show k * 8 ^ 2 = k * 64 by rfl, this]
    omega
  · have := or_mid (lo := S 0 + 8 * S 1 + 64 * S 2) (m := k) (hi := S 4) (K := 512) (P := 4096) 9 3 rfl rfl (by omega) (by omega)
    rw [show S 0 + 8 * S 1 + 64 * S 2 + 512 * S 3 + 4096 * S 4 = S 4 * 4096 + (S 0 + 8 * S 1 + 64 * S 2) by omega, show k * 8 ^ 3 = k * 512 by rfl, this]
    omega
  · have := or_mid (lo := S 0 + 8 * S 1 + 64 * S 2 + 512 * S 3) (m := k) (hi := 0) (K := 4096) (P := 65536) 12 4 rfl rfl (by omega) (by omega)
    rw [show S 0 + 8 * S 1 + 64 * S 2 + 512 * S 3 + 4096 * S 4 = 0 * 65536 + (S 0 + 8 * S 1 + 64 * S 2 + 512 * S 3) by omega, show k * 8 ^ 4 = k * 4096 by rfl, this]
    omega
theorem mark_nI : ∀ r, r < 2 → ∀ g, g < 4 → ((8 ||| (nI r <<< ((2 : Int32) &&& 31))) ||| nI g) = nI (8 + 4 * r + g) ∧ ((0 ||| (nI r <<< ((2 : Int32) &&& 31))) ||| nI g) = nI (0 + 4 * r + g) := by decide +kernel
theorem shl_nI : ∀ q, q < 5 → ∀ k, k < 16 → nI k <<< ((3 * nI q) &&& 31) = nI (k * 8 ^ q) := by decide +kernel
theorem nI_ne {a b : Nat} (h : a ≠ b) (ha : a < 2 ^ 31) (hb : b < 2 ^ 31) : ¬ nI a = nI b := fun e => h ((nI_eq ha hb).mp e)
theorem with_nI {S : Nat → Nat} {q r g : Nat} (hS : fitS S) (hq : q < 5) (h0 : S q = 0) (hr : r < 2) (hg : g < 4) : f_S_with (nI (enc S)) (nI q) (nI r) (nI g) = nI (enc (va_up S q ((if q = 4 then 8 else 0) + 4 * r + g))) := by
  unfold f_S_with
  by_cases h4 : q = 4
  · subst h4
    rw [if_pos (show nI 4 = (4 : Int32) from rfl), if_pos rfl, (mark_nI r hr g hg).1, shl_nI 4 (by omega) _ (by omega), nI_or, or_enc hS hq h0 (by omega)]
  · rw [if_neg (show ¬ nI q = (4 : Int32) from nI_ne (b := 4) h4 (by omega) (by omega)), if_neg h4, (mark_nI r hr g hg).2, shl_nI q hq _ (by omega), nI_or, or_enc hS hq h0 (by omega)]
theorem markAt_nI {S : Nat → Nat} {p : Nat} (hS : fitS S) (hp : p < 5) : f_S_markAt (nI (enc S)) (nI p) = nI (S p) := by
  have hlt := enc_lt hS
  have hd := congrFun (dig_enc hS) p
  unfold f_S_markAt
  rcases (show p = 0 ∨ p = 1 ∨ p = 2 ∨ p = 3 ∨ p = 4 by omega) with rfl | rfl | rfl | rfl | rfl
  · rw [if_neg (by decide), pk_shrN (n := enc S) (by omega) _ 0 (by decide), pk_andN (n := enc S / 2 ^ 0) (by omega) (m := 7) 3 (by decide)]
    simp [dig] at hd
    congr 1
    omega
  · rw [if_neg (by decide), pk_shrN (n := enc S) (by omega) _ 3 (by decide), pk_andN (n := enc S / 2 ^ 3) (by omega) (m := 7) 3 (by decide)]
    simp [dig] at hd
    congr 1
  · rw [if_neg (by decide), pk_shrN (n := enc S) (by omega) _ 6 (by decide), pk_andN (n := enc S / 2 ^ 6) (by omega) (m := 7) 3 (by decide)]
    simp [dig] at hd
    congr 1
  · rw [if_neg (by decide), pk_shrN (n := enc S) (by omega) _ 9 (by decide), pk_andN (n := enc S / 2 ^ 9) (by omega) (m := 7) 3 (by decide)]
    simp [dig] at hd
    congr 1
  · rw [if_pos (by decide), pk_shrN (n := enc S) (by omega) _ 12 (by decide), pk_andN (n := enc S / 2 ^ 12) (by omega) (m := 15) 4 (by decide)]
    simp [dig] at hd
    congr 1
theorem routeIn_nI : ∀ k, k < 16 → f_S_routeIn (nI k) = nI (m_r k) := by decide +kernel
theorem stageIn_nI : ∀ k, k < 16 → f_S_stageIn (nI k) = nI (m_s k) := by decide +kernel
theorem fit16 {S : Nat → Nat} {p : Nat} (hS : fitS S) (hp : p < 5) : S p < 16 := by
  by_cases h : p = 4
  · subst h; exact hS.2.1
  · have := hS.1 p (by omega); omega
theorem isFree_nI {S : Nat → Nat} {p q : Nat} (hS : fitS S) (hp : p < 5) (hq : q < 6) : f_S_isFree (nI (enc S)) (nI p) (nI q) = freeN S p q := by
  unfold f_S_isFree freeN
  by_cases h5 : q = 5
  · subst h5
    rw [if_pos (show nI 5 = (5 : Int32) from rfl)]
    simp
  · rw [if_neg (show ¬ nI q = (5 : Int32) from nI_ne (b := 5) h5 (by omega) (by omega))]
    by_cases hpq : q = p
    · subst hpq
      rw [if_pos rfl]
      simp
    · rw [if_neg (nI_ne hpq (by omega) (by omega)), markAt_nI hS (by omega)]
      have := fit16 hS (show q < 5 by omega)
      by_cases h0 : S q = 0
      · rw [if_pos (show nI (S q) = (0 : Int32) by rw [h0]; rfl)]
        simp [h0]
      · rw [if_neg (show ¬ nI (S q) = (0 : Int32) from nI_ne (b := 0) h0 (by omega) (by omega))]
        simp [h0, h5, hpq]
theorem fit_up0 {S : Nat → Nat} {p : Nat} (hS : fitS S) : fitS (va_up S p 0) := by
  obtain ⟨f1, f2, f3⟩ := hS
  refine ⟨fun x hx => ?_, ?_, fun x hx => ?_⟩
  · unfold va_up; split
    · omega
    · exact f1 x hx
  · unfold va_up; split
    · omega
    · exact f2
  · unfold va_up; split
    · rfl
    · exact f3 x hx
theorem lift_nI {S : Nat → Nat} {p : Nat} (hS : fitS S) (hp : p < 5) : nI (enc S) - (f_S_markAt (nI (enc S)) (nI p) <<< ((3 * nI p) &&& 31)) = nI (enc (va_up S p 0)) := by
  have e := enc_up (S := S) (v := 0) hp
  rw [markAt_nI hS hp, shl_nI p hp _ (fit16 hS hp), pk_sub (by omega)]
  congr 1
  omega
def liftS (S : Nat → Nat) (p : Nat) : Nat → Nat := if p < 5 then va_up S p 0 else S
def movS (S : Nat → Nat) (r g p q : Nat) : Nat → Nat := if q = 5 then liftS S p else va_up (liftS S p) q (putM q r g)
theorem put_nI {S : Nat → Nat} {q r g : Nat} (hS : fitS S) (hq : q < 5) (h0 : S q = 0) (hr : r < 2) (hg : g < 4) (hg3 : q < 4 → g < 3) :
    (if 4 ≤ nI q then f_S_with (nI (enc S)) (nI q) (nI r) (nI g) else f_S_with (nI (enc S)) (nI q) (nI r) (nI g + 1)) = nI (enc (va_up S q (putM q r g))) := by
  unfold putM
  by_cases h4 : q < 4
  · rw [if_neg (show ¬ (4 : Int32) ≤ nI q from nI_ge (a := q) (b := 4) h4 (by omega)), nI_1, with_nI hS hq h0 hr (by have := hg3 h4; omega), if_pos h4]
  · rw [if_pos (show (4 : Int32) ≤ nI q from nI_le (a := 4) (b := q) (by omega) (by omega)), with_nI hS hq h0 hr hg, if_neg h4]
theorem after_nI {S : Nat → Nat} {r g p q : Nat} (hS : fitS S) (hp : p < 6) (hq : q < 6) (hr : r < 2) (hg : g < 4) (hg3 : q < 4 → g < 3) (hf : q = 5 ∨ q = p ∨ S q = 0) : f_S_after (nI (enc S)) (nI r) (nI g) (nI p) (nI q) = nI (enc (movS S r g p q)) := by
  unfold f_S_after movS liftS
  by_cases h5 : p = 5
  · subst h5
    rw [if_pos (show nI 5 = (5 : Int32) from rfl), if_neg (show ¬ 5 < 5 by omega)]
    by_cases hq5 : q = 5
    · subst hq5
      rw [if_pos (show nI 5 = (5 : Int32) from rfl), if_pos rfl]
    · rw [if_neg (show ¬ nI q = (5 : Int32) from nI_ne (b := 5) hq5 (by omega) (by omega)), if_neg hq5]
      exact put_nI hS (by omega) (by rcases hf with h | h | h <;> first | omega | exact h) hr hg hg3
  · rw [if_neg (show ¬ nI p = (5 : Int32) from nI_ne (b := 5) h5 (by omega) (by omega)), if_pos (show p < 5 by omega), lift_nI hS (by omega)]
    by_cases hq5 : q = 5
    · subst hq5
      rw [if_pos (show nI 5 = (5 : Int32) from rfl), if_pos rfl]
    · rw [if_neg (show ¬ nI q = (5 : Int32) from nI_ne (b := 5) hq5 (by omega) (by omega)), if_neg hq5]
      refine put_nI (fit_up0 hS) (by omega) ?_ hr hg hg3
      unfold va_up
      split
      · rfl
      · rcases hf with h | h | h
        · omega
        · omega
        · exact h
theorem aft_mov {S : Nat → Nat} {p q : Nat} (hp : p < 5) : aft S p q = movS S (m_r (S p)) (m_s (S p)) p q := by
  unfold aft movS liftS
  rw [if_pos hp]
theorem routeOf_nI : ∀ r, r < 2 → f_Y_routeOf (nI r) = some r := by decide +kernel
theorem down_nI0 : ∀ d, d < 16 → ∀ p, p < 6 → (if (nI d &&& ((1 : Int32) <<< (nI p &&& 31))) = 0 then false else true) = d.testBit p := by decide +kernel
theorem down_nI {A : St} {p : Nat} (hd : sA_dn A < 16) (hp : p < 6) : f_Y_isDown A (nI p) = (sA_dn A).testBit p := down_nI0 _ hd _ hp
theorem has_nI {A : St} {r g : Nat} (hR : rOk A) (hg : g < 100) : f_U_has A r (nI g) = decide (g < sA_len A r) := by
  have hl := hR.1 r
  unfold f_U_has
  rw [if_neg (nI_pos (by omega))]
  by_cases h : g < sA_len A r
  · rw [if_neg (nI_ge h (by omega))]
    simp [h]
  · rw [if_pos (nI_le (by omega) (by omega))]
    simp [h]
theorem maskAt_nI {A : St} {r g : Nat} (hR : rOk A) (hg : g < 100) : f_U_maskAt A r (nI g) = nI (mskN (envA A) r g) := by
  unfold f_U_maskAt mskN
  rw [has_nI hR hg, nI_clamp (by omega)]
  by_cases h : g < sA_len A r
  · rw [if_pos (by simp [h]), if_pos (show g < e_len (envA A) r from h)]
    rfl
  · rw [if_neg (by simp [h]), if_neg (show ¬ g < e_len (envA A) r from h)]
    rfl
theorem lead_nI0 : ∀ k, k < 16 → ∀ p, p < 6 → ∀ q, q < 6 → (if f_Y_isReach (nI p) (nI q) then if nI k = 0 then f_Y_isHomeward (nI p) (nI q) else if 4 ≤ nI q then if nI q = 4 then if (nI k &&& f_Y_beyond (nI p)) = 0 then false else true else false else if (nI k &&& ((1 : Int32) <<< (nI q &&& 31))) = 0 then false else true else false) = (nearN p q && (if k = 0 then homeN p q else if q < 4 then k.testBit q else q == 4 && (k &&& beyN p) != 0)) := by decide +kernel
theorem leads_nI {A : St} {r g p q : Nat} (hR : rOk A) (hr : r < 2) (hg : g < 4) (hp : p < 6) (hq : q < 6) : f_Y_leads A (nI r) (nI g) (nI p) (nI q) = leadN (sA_dn A) (mskN (envA A) r g) p q := by
  unfold f_Y_leads
  rw [oc_some (routeOf_nI r hr), down_nI hR.2.2 hp, down_nI hR.2.2 hq, maskAt_nI hR (by omega), lead_nI0 _ (mskN_lt (env_ok hR)) _ hp _ hq]
  unfold leadN
  cases (sA_dn A).testBit p <;> cases (sA_dn A).testBit q <;> simp
