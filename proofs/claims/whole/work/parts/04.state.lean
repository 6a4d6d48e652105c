/-! The state that class and reference share, and their own hidden parts. Own work, printed by state.py. -/
abbrev St : Type := (Nat → Nat) × (Nat → Nat → Nat) × (Nat → Nat → Nat) × (Nat → Nat → Nat) × Nat × (Nat → Nat) × (Nat → Nat) × (Nat → Nat) × (Nat → Nat) × (Nat → Nat) × (Nat → Bool) × (Nat → Nat → Int32) × (Nat → Nat → Int32) × (Nat → Nat → Int32) × Nat × Int32 × Bool × Bool × Int32 × Int32
abbrev sA_len (A : St) : Nat → Nat := A.1
abbrev sA_mk (A : St) : Nat → Nat → Nat := A.2.1
abbrev sA_tm (A : St) : Nat → Nat → Nat := A.2.2.1
abbrev sA_lm (A : St) : Nat → Nat → Nat := A.2.2.2.1
abbrev sA_n (A : St) : Nat := A.2.2.2.2.1
abbrev sA_rt (A : St) : Nat → Nat := A.2.2.2.2.2.1
abbrev sA_pl (A : St) : Nat → Nat := A.2.2.2.2.2.2.1
abbrev sA_sg (A : St) : Nat → Nat := A.2.2.2.2.2.2.2.1
abbrev sA_lf (A : St) : Nat → Nat := A.2.2.2.2.2.2.2.2.1
abbrev sA_sn (A : St) : Nat → Nat := A.2.2.2.2.2.2.2.2.2.1
abbrev sA_la (A : St) : Nat → Bool := A.2.2.2.2.2.2.2.2.2.2.1
abbrev sA_ch (A : St) : Nat → Nat → Int32 := A.2.2.2.2.2.2.2.2.2.2.2.1
abbrev sA_be (A : St) : Nat → Nat → Int32 := A.2.2.2.2.2.2.2.2.2.2.2.2.1
abbrev sA_en (A : St) : Nat → Nat → Int32 := A.2.2.2.2.2.2.2.2.2.2.2.2.2.1
abbrev sA_dn (A : St) : Nat := A.2.2.2.2.2.2.2.2.2.2.2.2.2.2.1
abbrev sA_ck (A : St) : Int32 := A.2.2.2.2.2.2.2.2.2.2.2.2.2.2.2.1
abbrev sA_fb (A : St) : Bool := A.2.2.2.2.2.2.2.2.2.2.2.2.2.2.2.2.1
abbrev sA_bb (A : St) : Bool := A.2.2.2.2.2.2.2.2.2.2.2.2.2.2.2.2.2.1
abbrev sA_fm (A : St) : Int32 := A.2.2.2.2.2.2.2.2.2.2.2.2.2.2.2.2.2.2.1
abbrev sA_bm (A : St) : Int32 := A.2.2.2.2.2.2.2.2.2.2.2.2.2.2.2.2.2.2.2
abbrev sU_len (A : St) (z : Nat → Nat) : St := (z, A.2.1, A.2.2.1, A.2.2.2.1, A.2.2.2.2.1, A.2.2.2.2.2.1, A.2.2.2.2.2.2.1, A.2.2.2.2.2.2.2.1, A.2.2.2.2.2.2.2.2.1, A.2.2.2.2.2.2.2.2.2.1, A.2.2.2.2.2.2.2.2.2.2.1, A.2.2.2.2.2.2.2.2.2.2.2.1, A.2.2.2.2.2.2.2.2.2.2.2.2.1, A.2.2.2.2.2.2.2.2.2.2.2.2.2.1, A.2.2.2.2.2.2.2.2.2.2.2.2.2.2.1, A.2.2.2.2.2.2.2.2.2.2.2.2.2.2.2.1, A.2.2.2.2.2.2.2.2.2.2.2.2.2.2.2.2.1, A.2.2.2.2.2.2.2.2.2.2.2.2.2.2.2.2.2.1, A.2.2.2.2.2.2.2.2.2.2.2.2.2.2.2.2.2.2.1, A.2.2.2.2.2.2.2.2.2.2.2.2.2.2.2.2.2.2.2)
abbrev sU_mk (A : St) (z : Nat → Nat → Nat) : St := (A.1, z, A.2.2.1, A.2.2.2.1, A.2.2.2.2.1, A.2.2.2.2.2.1, A.2.2.2.2.2.2.1, A.2.2.2.2.2.2.2.1, A.2.2.2.2.2.2.2.2.1, A.2.2.2.2.2.2.2.2.2.1, A.2.2.2.2.2.2.2.2.2.2.1, A.2.2.2.2.2.2.2.2.2.2.2.1, A.2.2.2.2.2.2.2.2.2.2.2.2.1, A.2.2.2.2.2.2.2.2.2.2.2.2.2.1, A.2.2.2.2.2.2.2.2.2.2.2.2.2.2.1, A.2.2.2.2.2.2.2.2.2.2.2.2.2.2.2.1, A.2.2.2.2.2.2.2.2.2.2.2.2.2.2.2.2.1, A.2.2.2.2.2.2.2.2.2.2.2.2.2.2.2.2.2.1, A.2.2.2.2.2.2.2.2.2.2.2.2.2.2.2.2.2.2.1, A.2.2.2.2.2.2.2.2.2.2.2.2.2.2.2.2.2.2.2)
abbrev sU_tm (A : St) (z : Nat → Nat → Nat) : St := (A.1, A.2.1, z, A.2.2.2.1, A.2.2.2.2.1, A.2.2.2.2.2.1, A.2.2.2.2.2.2.1, A.2.2.2.2.2.2.2.1, A.2.2.2.2.2.2.2.2.1, A.2.2.2.2.2.2.2.2.2.1, A.2.2.2.2.2.2.2.2.2.2.1, A.2.2.2.2.2.2.2.2.2.2.2.1, A.2.2.2.2.2.2.2.2.2.2.2.2.1, A.2.2.2.2.2.2.2.2.2.2.2.2.2.1, A.2.2.2.2.2.2.2.2.2.2.2.2.2.2.1, A.2.2.2.2.2.2.2.2.2.2.2.2.2.2.2.1, A.2.2.2.2.2.2.2.2.2.2.2.2.2.2.2.2.1, A.2.2.2.2.2.2.2.2.2.2.2.2.2.2.2.2.2.1, A.2.2.2.2.2.2.2.2.2.2.2.2.2.2.2.2.2.2.1, A.2.2.2.2.2.2.2.2.2.2.2.2.2.2.2.2.2.2.2)
abbrev sU_lm (A : St) (z : Nat → Nat → Nat) : St := (A.1, A.2.1, A.2.2.1, z, A.2.2.2.2.1, A.2.2.2.2.2.1, A.2.2.2.2.2.2.1, A.2.2.2.2.2.2.2.1, A.2.2.2.2.2.2.2.2.1, A.2.2.2.2.2.2.2.2.2.1, A.2.2.2.2.2.2.2.2.2.2.1, A.2.2.2.2.2.2.2.2.2.2.2.1, A.2.2.2.2.2.2.2.2.2.2.2.2.1, A.2.2.2.2.2.2.2.2.2.2.2.2.2.1, A.2.2.2.2.2.2.2.2.2.2.2.2.2.2.1, A.2.2.2.2.2.2.2.2.2.2.2.2.2.2.2.1, A.2.2.2.2.2.2.2.2.2.2.2.2.2.2.2.2.1, A.2.2.2.2.2.2.2.2.2.2.2.2.2.2.2.2.2.1, A.2.2.2.2.2.2.2.2.2.2.2.2.2.2.2.2.2.2.1, A.2.2.2.2.2.2.2.2.2.2.2.2.2.2.2.2.2.2.2)
abbrev sU_n (A : St) (z : Nat) : St := (A.1, A.2.1, A.2.2.1, A.2.2.2.1, z, A.2.2.2.2.2.1, A.2.2.2.2.2.2.1, A.2.2.2.2.2.2.2.1, A.2.2.2.2.2.2.2.2.1, A.2.2.2.2.2.2.2.2.2.1, A.2.2.2.2.2.2.2.2.2.2.1, A.2.2.2.2.2.2.2.2.2.2.2.1, A.2.2.2.2.2.2.2.2.2.2.2.2.1, A.2.2.2.2.2.2.2.2.2.2.2.2.2.1, A.2.2.2.2.2.2.2.2.2.2.2.2.2.2.1, A.2.2.2.2.2.2.2.2.2.2.2.2.2.2.2.1, A.2.2.2.2.2.2.2.2.2.2.2.2.2.2.2.2.1, A.2.2.2.2.2.2.2.2.2.2.2.2.2.2.2.2.2.1, A.2.2.2.2.2.2.2.2.2.2.2.2.2.2.2.2.2.2.1, A.2.2.2.2.2.2.2.2.2.2.2.2.2.2.2.2.2.2.2)
abbrev sU_rt (A : St) (z : Nat → Nat) : St := (A.1, A.2.1, A.2.2.1, A.2.2.2.1, A.2.2.2.2.1, z, A.2.2.2.2.2.2.1, A.2.2.2.2.2.2.2.1, A.2.2.2.2.2.2.2.2.1, A.2.2.2.2.2.2.2.2.2.1, A.2.2.2.2.2.2.2.2.2.2.1, A.2.2.2.2.2.2.2.2.2.2.2.1, A.2.2.2.2.2.2.2.2.2.2.2.2.1, A.2.2.2.2.2.2.2.2.2.2.2.2.2.1, A.2.2.2.2.2.2.2.2.2.2.2.2.2.2.1, A.2.2.2.2.2.2.2.2.2.2.2.2.2.2.2.1, A.2.2.2.2.2.2.2.2.2.2.2.2.2.2.2.2.1, A.2.2.2.2.2.2.2.2.2.2.2.2.2.2.2.2.2.1, A.2.2.2.2.2.2.2.2.2.2.2.2.2.2.2.2.2.2.1, A.2.2.2.2.2.2.2.2.2.2.2.2.2.2.2.2.2.2.2)
abbrev sU_pl (A : St) (z : Nat → Nat) : St := (A.1, A.2.1, A.2.2.1, A.2.2.2.1, A.2.2.2.2.1, A.2.2.2.2.2.1, z, A.2.2.2.2.2.2.2.1, A.2.2.2.2.2.2.2.2.1, A.2.2.2.2.2.2.2.2.2.1, A.2.2.2.2.2.2.2.2.2.2.1, A.2.2.2.2.2.2.2.2.2.2.2.1, A.2.2.2.2.2.2.2.2.2.2.2.2.1, A.2.2.2.2.2.2.2.2.2.2.2.2.2.1, A.2.2.2.2.2.2.2.2.2.2.2.2.2.2.1, A.2.2.2.2.2.2.2.2.2.2.2.2.2.2.2.1, A.2.2.2.2.2.2.2.2.2.2.2.2.2.2.2.2.1, A.2.2.2.2.2.2.2.2.2.2.2.2.2.2.2.2.2.1, A.2.2.2.2.2.2.2.2.2.2.2.2.2.2.2.2.2.2.1, A.2.2.2.2.2.2.2.2.2.2.2.2.2.2.2.2.2.2.2)
abbrev sU_sg (A : St) (z : Nat → Nat) : St := (A.1, A.2.1, A.2.2.1, A.2.2.2.1, A.2.2.2.2.1, A.2.2.2.2.2.1, A.2.2.2.2.2.2.1, z, A.2.2.2.2.2.2.2.2.1, A.2.2.2.2.2.2.2.2.2.1, A.2.2.2.2.2.2.2.2.2.2.1, A.2.2.2.2.2.2.2.2.2.2.2.1, A.2.2.2.2.2.2.2.2.2.2.2.2.1, A.2.2.2.2.2.2.2.2.2.2.2.2.2.1, A.2.2.2.2.2.2.2.2.2.2.2.2.2.2.1, A.2.2.2.2.2.2.2.2.2.2.2.2.2.2.2.1, A.2.2.2.2.2.2.2.2.2.2.2.2.2.2.2.2.1, A.2.2.2.2.2.2.2.2.2.2.2.2.2.2.2.2.2.1, A.2.2.2.2.2.2.2.2.2.2.2.2.2.2.2.2.2.2.1, A.2.2.2.2.2.2.2.2.2.2.2.2.2.2.2.2.2.2.2)
abbrev sU_lf (A : St) (z : Nat → Nat) : St := (A.1, A.2.1, A.2.2.1, A.2.2.2.1, A.2.2.2.2.1, A.2.2.2.2.2.1, A.2.2.2.2.2.2.1, A.2.2.2.2.2.2.2.1, z, A.2.2.2.2.2.2.2.2.2.1, A.2.2.2.2.2.2.2.2.2.2.1, A.2.2.2.2.2.2.2.2.2.2.2.1, A.2.2.2.2.2.2.2.2.2.2.2.2.1, A.2.2.2.2.2.2.2.2.2.2.2.2.2.1, A.2.2.2.2.2.2.2.2.2.2.2.2.2.2.1, A.2.2.2.2.2.2.2.2.2.2.2.2.2.2.2.1, A.2.2.2.2.2.2.2.2.2.2.2.2.2.2.2.2.1, A.2.2.2.2.2.2.2.2.2.2.2.2.2.2.2.2.2.1, A.2.2.2.2.2.2.2.2.2.2.2.2.2.2.2.2.2.2.1, A.2.2.2.2.2.2.2.2.2.2.2.2.2.2.2.2.2.2.2)
abbrev sU_sn (A : St) (z : Nat → Nat) : St := (A.1, A.2.1, A.2.2.1, A.2.2.2.1, A.2.2.2.2.1, A.2.2.2.2.2.1, A.2.2.2.2.2.2.1, A.2.2.2.2.2.2.2.1, A.2.2.2.2.2.2.2.2.1, z, A.2.2.2.2.2.2.2.2.2.2.1, A.2.2.2.2.2.2.2.2.2.2.2.1, A.2.2.2.2.2.2.2.2.2.2.2.2.1, A.2.2.2.2.2.2.2.2.2.2.2.2.2.1, A.2.2.2.2.2.2.2.2.2.2.2.2.2.2.1, A.2.2.2.2.2.2.2.2.2.2.2.2.2.2.2.1, A.2.2.2.2.2.2.2.2.2.2.2.2.2.2.2.2.1, A.2.2.2.2.2.2.2.2.2.2.2.2.2.2.2.2.2.1, A.2.2.2.2.2.2.2.2.2.2.2.2.2.2.2.2.2.2.1, A.2.2.2.2.2.2.2.2.2.2.2.2.2.2.2.2.2.2.2)
abbrev sU_la (A : St) (z : Nat → Bool) : St := (A.1, A.2.1, A.2.2.1, A.2.2.2.1, A.2.2.2.2.1, A.2.2.2.2.2.1, A.2.2.2.2.2.2.1, A.2.2.2.2.2.2.2.1, A.2.2.2.2.2.2.2.2.1, A.2.2.2.2.2.2.2.2.2.1, z, A.2.2.2.2.2.2.2.2.2.2.2.1, A.2.2.2.2.2.2.2.2.2.2.2.2.1, A.2.2.2.2.2.2.2.2.2.2.2.2.2.1, A.2.2.2.2.2.2.2.2.2.2.2.2.2.2.1, A.2.2.2.2.2.2.2.2.2.2.2.2.2.2.2.1, A.2.2.2.2.2.2.2.2.2.2.2.2.2.2.2.2.1, A.2.2.2.2.2.2.2.2.2.2.2.2.2.2.2.2.2.1, A.2.2.2.2.2.2.2.2.2.2.2.2.2.2.2.2.2.2.1, A.2.2.2.2.2.2.2.2.2.2.2.2.2.2.2.2.2.2.2)
abbrev sU_ch (A : St) (z : Nat → Nat → Int32) : St := (A.1, A.2.1, A.2.2.1, A.2.2.2.1, A.2.2.2.2.1, A.2.2.2.2.2.1, A.2.2.2.2.2.2.1, A.2.2.2.2.2.2.2.1, A.2.2.2.2.2.2.2.2.1, A.2.2.2.2.2.2.2.2.2.1, A.2.2.2.2.2.2.2.2.2.2.1, z, A.2.2.2.2.2.2.2.2.2.2.2.2.1, A.2.2.2.2.2.2.2.2.2.2.2.2.2.1, A.2.2.2.2.2.2.2.2.2.2.2.2.2.2.1, A.2.2.2.2.2.2.2.2.2.2.2.2.2.2.2.1, A.2.2.2.2.2.2.2.2.2.2.2.2.2.2.2.2.1, A.2.2.2.2.2.2.2.2.2.2.2.2.2.2.2.2.2.1, A.2.2.2.2.2.2.2.2.2.2.2.2.2.2.2.2.2.2.1, A.2.2.2.2.2.2.2.2.2.2.2.2.2.2.2.2.2.2.2)
abbrev sU_be (A : St) (z : Nat → Nat → Int32) : St := (A.1, A.2.1, A.2.2.1, A.2.2.2.1, A.2.2.2.2.1, A.2.2.2.2.2.1, A.2.2.2.2.2.2.1, A.2.2.2.2.2.2.2.1, A.2.2.2.2.2.2.2.2.1, A.2.2.2.2.2.2.2.2.2.1, A.2.2.2.2.2.2.2.2.2.2.1, A.2.2.2.2.2.2.2.2.2.2.2.1, z, A.2.2.2.2.2.2.2.2.2.2.2.2.2.1, A.2.2.2.2.2.2.2.2.2.2.2.2.2.2.1, A.2.2.2.2.2.2.2.2.2.2.2.2.2.2.2.1, A.2.2.2.2.2.2.2.2.2.2.2.2.2.2.2.2.1, A.2.2.2.2.2.2.2.2.2.2.2.2.2.2.2.2.2.1, A.2.2.2.2.2.2.2.2.2.2.2.2.2.2.2.2.2.2.1, A.2.2.2.2.2.2.2.2.2.2.2.2.2.2.2.2.2.2.2)
abbrev sU_en (A : St) (z : Nat → Nat → Int32) : St := (A.1, A.2.1, A.2.2.1, A.2.2.2.1, A.2.2.2.2.1, A.2.2.2.2.2.1, A.2.2.2.2.2.2.1, A.2.2.2.2.2.2.2.1, A.2.2.2.2.2.2.2.2.1, A.2.2.2.2.2.2.2.2.2.1, A.2.2.2.2.2.2.2.2.2.2.1, A.2.2.2.2.2.2.2.2.2.2.2.1, A.2.2.2.2.2.2.2.2.2.2.2.2.1, z, A.2.2.2.2.2.2.2.2.2.2.2.2.2.2.1, A.2.2.2.2.2.2.2.2.2.2.2.2.2.2.2.1, A.2.2.2.2.2.2.2.2.2.2.2.2.2.2.2.2.1, A.2.2.2.2.2.2.2.2.2.2.2.2.2.2.2.2.2.1, A.2.2.2.2.2.2.2.2.2.2.2.2.2.2.2.2.2.2.1, A.2.2.2.2.2.2.2.2.2.2.2.2.2.2.2.2.2.2.2)
abbrev sU_dn (A : St) (z : Nat) : St := (A.1, A.2.1, A.2.2.1, A.2.2.2.1, A.2.2.2.2.1, A.2.2.2.2.2.1, A.2.2.2.2.2.2.1, A.2.2.2.2.2.2.2.1, A.2.2.2.2.2.2.2.2.1, A.2.2.2.2.2.2.2.2.2.1, A.2.2.2.2.2.2.2.2.2.2.1, A.2.2.2.2.2.2.2.2.2.2.2.1, A.2.2.2.2.2.2.2.2.2.2.2.2.1, A.2.2.2.2.2.2.2.2.2.2.2.2.2.1, z, A.2.2.2.2.2.2.2.2.2.2.2.2.2.2.2.1, A.2.2.2.2.2.2.2.2.2.2.2.2.2.2.2.2.1, A.2.2.2.2.2.2.2.2.2.2.2.2.2.2.2.2.2.1, A.2.2.2.2.2.2.2.2.2.2.2.2.2.2.2.2.2.2.1, A.2.2.2.2.2.2.2.2.2.2.2.2.2.2.2.2.2.2.2)
abbrev sU_ck (A : St) (z : Int32) : St := (A.1, A.2.1, A.2.2.1, A.2.2.2.1, A.2.2.2.2.1, A.2.2.2.2.2.1, A.2.2.2.2.2.2.1, A.2.2.2.2.2.2.2.1, A.2.2.2.2.2.2.2.2.1, A.2.2.2.2.2.2.2.2.2.1, A.2.2.2.2.2.2.2.2.2.2.1, A.2.2.2.2.2.2.2.2.2.2.2.1, A.2.2.2.2.2.2.2.2.2.2.2.2.1, A.2.2.2.2.2.2.2.2.2.2.2.2.2.1, A.2.2.2.2.2.2.2.2.2.2.2.2.2.2.1, z, A.2.2.2.2.2.2.2.2.2.2.2.2.2.2.2.2.1, A.2.2.2.2.2.2.2.2.2.2.2.2.2.2.2.2.2.1, A.2.2.2.2.2.2.2.2.2.2.2.2.2.2.2.2.2.2.1, A.2.2.2.2.2.2.2.2.2.2.2.2.2.2.2.2.2.2.2)
abbrev sU_fb (A : St) (z : Bool) : St := (A.1, A.2.1, A.2.2.1, A.2.2.2.1, A.2.2.2.2.1, A.2.2.2.2.2.1, A.2.2.2.2.2.2.1, A.2.2.2.2.2.2.2.1, A.2.2.2.2.2.2.2.2.1, A.2.2.2.2.2.2.2.2.2.1, A.2.2.2.2.2.2.2.2.2.2.1, A.2.2.2.2.2.2.2.2.2.2.2.1, A.2.2.2.2.2.2.2.2.2.2.2.2.1, A.2.2.2.2.2.2.2.2.2.2.2.2.2.1, A.2.2.2.2.2.2.2.2.2.2.2.2.2.2.1, A.2.2.2.2.2.2.2.2.2.2.2.2.2.2.2.1, z, A.2.2.2.2.2.2.2.2.2.2.2.2.2.2.2.2.2.1, A.2.2.2.2.2.2.2.2.2.2.2.2.2.2.2.2.2.2.1, A.2.2.2.2.2.2.2.2.2.2.2.2.2.2.2.2.2.2.2)
abbrev sU_bb (A : St) (z : Bool) : St := (A.1, A.2.1, A.2.2.1, A.2.2.2.1, A.2.2.2.2.1, A.2.2.2.2.2.1, A.2.2.2.2.2.2.1, A.2.2.2.2.2.2.2.1, A.2.2.2.2.2.2.2.2.1, A.2.2.2.2.2.2.2.2.2.1, A.2.2.2.2.2.2.2.2.2.2.1, A.2.2.2.2.2.2.2.2.2.2.2.1, A.2.2.2.2.2.2.2.2.2.2.2.2.1, A.2.2.2.2.2.2.2.2.2.2.2.2.2.1, A.2.2.2.2.2.2.2.2.2.2.2.2.2.2.1, A.2.2.2.2.2.2.2.2.2.2.2.2.2.2.2.1, A.2.2.2.2.2.2.2.2.2.2.2.2.2.2.2.2.1, z, A.2.2.2.2.2.2.2.2.2.2.2.2.2.2.2.2.2.2.1, A.2.2.2.2.2.2.2.2.2.2.2.2.2.2.2.2.2.2.2)
abbrev sU_fm (A : St) (z : Int32) : St := (A.1, A.2.1, A.2.2.1, A.2.2.2.1, A.2.2.2.2.1, A.2.2.2.2.2.1, A.2.2.2.2.2.2.1, A.2.2.2.2.2.2.2.1, A.2.2.2.2.2.2.2.2.1, A.2.2.2.2.2.2.2.2.2.1, A.2.2.2.2.2.2.2.2.2.2.1, A.2.2.2.2.2.2.2.2.2.2.2.1, A.2.2.2.2.2.2.2.2.2.2.2.2.1, A.2.2.2.2.2.2.2.2.2.2.2.2.2.1, A.2.2.2.2.2.2.2.2.2.2.2.2.2.2.1, A.2.2.2.2.2.2.2.2.2.2.2.2.2.2.2.1, A.2.2.2.2.2.2.2.2.2.2.2.2.2.2.2.2.1, A.2.2.2.2.2.2.2.2.2.2.2.2.2.2.2.2.2.1, z, A.2.2.2.2.2.2.2.2.2.2.2.2.2.2.2.2.2.2.2)
abbrev sU_bm (A : St) (z : Int32) : St := (A.1, A.2.1, A.2.2.1, A.2.2.2.1, A.2.2.2.2.1, A.2.2.2.2.2.1, A.2.2.2.2.2.2.1, A.2.2.2.2.2.2.2.1, A.2.2.2.2.2.2.2.2.1, A.2.2.2.2.2.2.2.2.2.1, A.2.2.2.2.2.2.2.2.2.2.1, A.2.2.2.2.2.2.2.2.2.2.2.1, A.2.2.2.2.2.2.2.2.2.2.2.2.1, A.2.2.2.2.2.2.2.2.2.2.2.2.2.1, A.2.2.2.2.2.2.2.2.2.2.2.2.2.2.1, A.2.2.2.2.2.2.2.2.2.2.2.2.2.2.2.1, A.2.2.2.2.2.2.2.2.2.2.2.2.2.2.2.2.1, A.2.2.2.2.2.2.2.2.2.2.2.2.2.2.2.2.2.1, A.2.2.2.2.2.2.2.2.2.2.2.2.2.2.2.2.2.2.1, z)
abbrev Gc : Type := (Nat → Nat) × (Nat → Int32) × (Nat → Bool) × (Nat → Int32) × (Nat → Int64) × (Nat → Int64)
abbrev gA_ad (G : Gc) : Nat → Nat := G.1
abbrev gA_wt (G : Gc) : Nat → Int32 := G.2.1
abbrev gA_fi (G : Gc) : Nat → Bool := G.2.2.1
abbrev gA_ins (G : Gc) : Nat → Int32 := G.2.2.2.1
abbrev gA_kn (G : Gc) : Nat → Int64 := G.2.2.2.2.1
abbrev gA_ps (G : Gc) : Nat → Int64 := G.2.2.2.2.2
abbrev gU_ad (G : Gc) (z : Nat → Nat) : Gc := (z, G.2.1, G.2.2.1, G.2.2.2.1, G.2.2.2.2.1, G.2.2.2.2.2)
abbrev gU_wt (G : Gc) (z : Nat → Int32) : Gc := (G.1, z, G.2.2.1, G.2.2.2.1, G.2.2.2.2.1, G.2.2.2.2.2)
abbrev gU_fi (G : Gc) (z : Nat → Bool) : Gc := (G.1, G.2.1, z, G.2.2.2.1, G.2.2.2.2.1, G.2.2.2.2.2)
abbrev gU_ins (G : Gc) (z : Nat → Int32) : Gc := (G.1, G.2.1, G.2.2.1, z, G.2.2.2.2.1, G.2.2.2.2.2)
abbrev gU_kn (G : Gc) (z : Nat → Int64) : Gc := (G.1, G.2.1, G.2.2.1, G.2.2.2.1, z, G.2.2.2.2.2)
abbrev gU_ps (G : Gc) (z : Nat → Int64) : Gc := (G.1, G.2.1, G.2.2.1, G.2.2.2.1, G.2.2.2.2.1, z)
abbrev Gr : Type := (Nat → Nat) × (Nat → Int32) × (Nat → Int32) × (Nat → Int32) × Bool
abbrev rA_ad (G : Gr) : Nat → Nat := G.1
abbrev rA_kn (G : Gr) : Nat → Int32 := G.2.1
abbrev rA_tr (G : Gr) : Nat → Int32 := G.2.2.1
abbrev rA_tu (G : Gr) : Nat → Int32 := G.2.2.2.1
abbrev rA_st (G : Gr) : Bool := G.2.2.2.2
abbrev rU_ad (G : Gr) (z : Nat → Nat) : Gr := (z, G.2.1, G.2.2.1, G.2.2.2.1, G.2.2.2.2)
abbrev rU_kn (G : Gr) (z : Nat → Int32) : Gr := (G.1, z, G.2.2.1, G.2.2.2.1, G.2.2.2.2)
abbrev rU_tr (G : Gr) (z : Nat → Int32) : Gr := (G.1, G.2.1, z, G.2.2.2.1, G.2.2.2.2)
abbrev rU_tu (G : Gr) (z : Nat → Int32) : Gr := (G.1, G.2.1, G.2.2.1, z, G.2.2.2.2)
abbrev rU_st (G : Gr) (z : Bool) : Gr := (G.1, G.2.1, G.2.2.1, G.2.2.2.1, z)
/-! The class's world: a fixed list of cells and four cells a wafer. Own work. -/
def b2i : Bool → Int32
  | true => 1
  | false => 0
theorem b2i_f {b : Bool} (h : b2i b = 0) : b = false := by cases b <;> first | rfl | (exfalso; revert h; decide)
theorem b2i_t {b : Bool} (h : ¬ b2i b = 0) : b = true := by cases b <;> first | rfl | exact absurd rfl h
theorem b2i_nar (b : Bool) : narrow .boolean (.int (b2i b)) = .int (b2i b) := by cases b <;> rfl
theorem b2i_fit (b : Bool) : fits .boolean (.int (b2i b)) = true := by cases b <;> rfl
theorem nt_of {b : Bool} (h : b = false) : ¬ b = true := by rw [h]; decide
def oc {α β : Type} (o : Option α) (a : β) (f : α → β) : β := match o with
  | none => a
  | some i => f i
theorem oc_none {α β : Type} {o : Option α} {a : β} {f : α → β} (h : o = none) : oc o a f = a := by subst h; rfl
theorem oc_some {α β : Type} {o : Option α} {a : β} {f : α → β} {i : α} (h : o = some i) : oc o a f = f i := by subst h; rfl
/-- the tables' numbers: of the classes and slots; of int[], long[], boolean[], Wafer[], Route[] -/
abbrev Xt : Type := va_G × ClassId × ClassId × ClassId × ClassId × ClassId
abbrev x_I (X : Xt) : ClassId := X.2.1
abbrev x_J (X : Xt) : ClassId := X.2.2.1
abbrev x_Z (X : Xt) : ClassId := X.2.2.2.1
abbrev x_W (X : Xt) : ClassId := X.2.2.2.2.1
abbrev x_R (X : Xt) : ClassId := X.2.2.2.2.2
abbrev tysX (X : Xt) : List (ClassId × FieldType) := [(x_I X, .int), (x_J X, .long), (x_Z X, .boolean), (x_W X, .object "ClusterTool$Wafer"), (x_R X, .object "ClusterTool$Route")]
abbrev aI (n : Nat) (f : Nat → Int32) : vp_A := (n, .inl f)
abbrev aJ (n : Nat) (f : Nat → Int64) : vp_A := (n, .inr (.inl f))
abbrev aQ (n : Nat) (f : Nat → Option Nat) : vp_A := (n, .inr (.inr (.inr (.inr f))))
def wRefs (G : Gc) (A : St) : Nat → Option Nat := fun i => if i < sA_n A then some (gA_ad G (18 + 4 * i)) else none
def rRefs (G : Gc) : Nat → Option Nat := fun r => if r = 0 then some (gA_ad G 8) else if r = 1 then some (gA_ad G 12) else none
def o_tool (G : Gc) (A : St) : List Value := [.ref (gA_ad G 1), .ref (gA_ad G 2), .ref (gA_ad G 3), .ref (gA_ad G 4), .ref (gA_ad G 5), .ref (gA_ad G 6), .int (nI (sA_n A)), .int (sA_ck A)]
def o_ways (G : Gc) (A : St) : List Value := [.ref (gA_ad G 7), .int (nI (sA_dn A))]
def o_emp (G : Gc) : List Value := [.ref (gA_ad G 16), .ref (gA_ad G 17)]
def o_front (A : St) : List Value := [.int (b2i (sA_fb A)), .int (sA_fm A)]
def o_back (A : St) : List Value := [.int (b2i (sA_bb A)), .int (sA_bm A)]
def o_route (G : Gc) (A : St) (r : Nat) : List Value := [.ref (gA_ad G (9 + 4 * r)), .ref (gA_ad G (10 + 4 * r)), .ref (gA_ad G (11 + 4 * r)), .int (nI (sA_len A r))]
def o_waf (G : Gc) (A : St) (i : Nat) : List Value := [.int (nI (sA_rt A i)), .ref (gA_ad G (18 + 4 * i + 1)), .ref (gA_ad G (18 + 4 * i + 2)), .ref (gA_ad G (18 + 4 * i + 3)), .int (nI (sA_pl A i)), .int (nI (sA_sg A i)), .int (nI (sA_lf A i)), .int (gA_wt G i), .int (b2i (gA_fi G i)), .int (b2i (sA_la A i))]
def wE (X : Xt) (G : Gc) (A : St) (i : Nat) : Nat → va_E
  | 0 => .inr (5, o_waf G A i)
  | 1 => .inl (x_I X, aI 3 (sA_ch A i))
  | 2 => .inl (x_I X, aI 3 (sA_be A i))
  | _ => .inl (x_I X, aI 3 (sA_en A i))
def wcell (X : Xt) (G : Gc) (A : St) (k : Nat) : Nat × va_E := (gA_ad G (18 + k), wE X G A (k / 4) (k % 4))
def cwF (X : Xt) (G : Gc) (A : St) : va_W := [
  (gA_ad G 0, .inr (0, o_tool G A)),
  (gA_ad G 1, .inr (1, o_ways G A)),
  (gA_ad G 2, .inr (2, o_emp G)),
  (gA_ad G 3, .inr (3, o_front A)),
  (gA_ad G 4, .inr (3, o_back A)),
  (gA_ad G 5, .inl (x_W X, aQ 25 (wRefs G A))),
  (gA_ad G 6, .inl (x_I X, aI 5 (gA_ins G))),
  (gA_ad G 7, .inl (x_R X, aQ 2 (rRefs G))),
  (gA_ad G 8, .inr (4, o_route G A 0)),
  (gA_ad G 9, .inl (x_I X, aI 3 (fun i => nI (sA_mk A 0 i)))),
  (gA_ad G 10, .inl (x_I X, aI 3 (fun i => nI (sA_tm A 0 i)))),
  (gA_ad G 11, .inl (x_I X, aI 3 (fun i => nI (sA_lm A 0 i)))),
  (gA_ad G 12, .inr (4, o_route G A 1)),
  (gA_ad G 13, .inl (x_I X, aI 3 (fun i => nI (sA_mk A 1 i)))),
  (gA_ad G 14, .inl (x_I X, aI 3 (fun i => nI (sA_tm A 1 i)))),
  (gA_ad G 15, .inl (x_I X, aI 3 (fun i => nI (sA_lm A 1 i)))),
  (gA_ad G 16, .inl (x_J X, aJ 1024 (gA_kn G))),
  (gA_ad G 17, .inl (x_J X, aJ 1024 (gA_ps G)))]
def cw (X : Xt) (G : Gc) (A : St) : va_W := cwF X G A ++ (List.range (4 * sA_n A)).map (wcell X G A)
section CW
variable {X : Xt} {G : Gc} {A : St} {i r : Nat}
theorem cw_0 : (cw X G A)[0]? = some (gA_ad G 0, .inr (0, o_tool G A)) := rfl
theorem cw_1 : (cw X G A)[1]? = some (gA_ad G 1, .inr (1, o_ways G A)) := rfl
theorem cw_2 : (cw X G A)[2]? = some (gA_ad G 2, .inr (2, o_emp G)) := rfl
theorem cw_3 : (cw X G A)[3]? = some (gA_ad G 3, .inr (3, o_front A)) := rfl
theorem cw_4 : (cw X G A)[4]? = some (gA_ad G 4, .inr (3, o_back A)) := rfl
theorem cw_5 : (cw X G A)[5]? = some (gA_ad G 5, .inl (x_W X, aQ 25 (wRefs G A))) := rfl
theorem cw_6 : (cw X G A)[6]? = some (gA_ad G 6, .inl (x_I X, aI 5 (gA_ins G))) := rfl
theorem cw_7 : (cw X G A)[7]? = some (gA_ad G 7, .inl (x_R X, aQ 2 (rRefs G))) := rfl
theorem cw_16 : (cw X G A)[16]? = some (gA_ad G 16, .inl (x_J X, aJ 1024 (gA_kn G))) := rfl
theorem cw_17 : (cw X G A)[17]? = some (gA_ad G 17, .inl (x_J X, aJ 1024 (gA_ps G))) := rfl
theorem cw_r (hr : r < 2) : (cw X G A)[8 + 4 * r]? = some (gA_ad G (8 + 4 * r), .inr (4, o_route G A r)) := by
  rcases (show r = 0 ∨ r = 1 by omega) with rfl | rfl <;> rfl
theorem cw_rm (hr : r < 2) : (cw X G A)[9 + 4 * r]? = some (gA_ad G (9 + 4 * r), .inl (x_I X, aI 3 (fun i => nI (sA_mk A r i)))) := by
  rcases (show r = 0 ∨ r = 1 by omega) with rfl | rfl <;> rfl
theorem cw_rt (hr : r < 2) : (cw X G A)[10 + 4 * r]? = some (gA_ad G (10 + 4 * r), .inl (x_I X, aI 3 (fun i => nI (sA_tm A r i)))) := by
  rcases (show r = 0 ∨ r = 1 by omega) with rfl | rfl <;> rfl
theorem cw_rl (hr : r < 2) : (cw X G A)[11 + 4 * r]? = some (gA_ad G (11 + 4 * r), .inl (x_I X, aI 3 (fun i => nI (sA_lm A r i)))) := by
  rcases (show r = 0 ∨ r = 1 by omega) with rfl | rfl <;> rfl
theorem cw_k {k : Nat} (hk : k < 4 * sA_n A) : (cw X G A)[18 + k]? = some (wcell X G A k) := by
  unfold cw
  rw [List.getElem?_append_right (by show 18 ≤ 18 + k; omega)]
  show ((List.range (4 * sA_n A)).map (wcell X G A))[18 + k - 18]? = _
  rw [Nat.add_sub_cancel_left, List.getElem?_map, List.getElem?_range hk]
  rfl
theorem cw_w (hi : i < sA_n A) : (cw X G A)[18 + 4 * i]? = some (gA_ad G (18 + 4 * i), .inr (5, o_waf G A i)) := by
  rw [cw_k (by omega)]
  unfold wcell
  rw [show 4 * i / 4 = i by omega, show 4 * i % 4 = 0 by omega]
  rfl
theorem cw_wc (hi : i < sA_n A) : (cw X G A)[18 + 4 * i + 1]? = some (gA_ad G (18 + 4 * i + 1), .inl (x_I X, aI 3 (sA_ch A i))) := by
  rw [Nat.add_assoc, cw_k (by omega)]
  unfold wcell
  rw [show (4 * i + 1) / 4 = i by omega, show (4 * i + 1) % 4 = 1 by omega]
  rfl
theorem cw_wb (hi : i < sA_n A) : (cw X G A)[18 + 4 * i + 2]? = some (gA_ad G (18 + 4 * i + 2), .inl (x_I X, aI 3 (sA_be A i))) := by
  rw [Nat.add_assoc, cw_k (by omega)]
  unfold wcell
  rw [show (4 * i + 2) / 4 = i by omega, show (4 * i + 2) % 4 = 2 by omega]
  rfl
theorem cw_we (hi : i < sA_n A) : (cw X G A)[18 + 4 * i + 3]? = some (gA_ad G (18 + 4 * i + 3), .inl (x_I X, aI 3 (sA_en A i))) := by
  rw [Nat.add_assoc, cw_k (by omega)]
  unfold wcell
  rw [show (4 * i + 3) / 4 = i by omega, show (4 * i + 3) % 4 = 3 by omega]
  rfl
theorem wc_set {G' : Gc} {A' : St} {t : Nat} {e : Nat × va_E} (ht : t < 4) (hself : wcell X G' A' (4 * i + t) = e) (hoth : ∀ j u, u < 4 → ¬ (j = i ∧ u = t) → wcell X G' A' (4 * j + u) = wcell X G A (4 * j + u)) (hn : sA_n A' = sA_n A) (hF : cwF X G' A' = cwF X G A) : (cw X G A).set (18 + (4 * i + t)) e = cw X G' A' := by
  unfold cw
  rw [hn, hF, List.set_append_right _ _ (by show 18 ≤ _; omega)]
  congr 1
  show ((List.range (4 * sA_n A)).map (wcell X G A)).set (18 + (4 * i + t) - 18) e = _
  rw [Nat.add_sub_cancel_left]
  apply List.ext_getElem?
  intro k
  by_cases hk : k = 4 * i + t
  · subst hk
    by_cases hl : 4 * i + t < 4 * sA_n A
    · rw [List.getElem?_set_self (by simpa using hl), List.getElem?_map, List.getElem?_range hl, Option.map_some, hself]
    · rw [List.getElem?_eq_none (by simpa using hl), List.getElem?_eq_none (by simpa using hl)]
  · rw [List.getElem?_set_ne (Ne.symm hk), List.getElem?_map, List.getElem?_map]
    by_cases hl : k < 4 * sA_n A
    · rw [List.getElem?_range hl, Option.map_some, Option.map_some]
      have h := hoth (k / 4) (k % 4) (by omega) (by omega)
      rw [show 4 * (k / 4) + k % 4 = k by omega] at h
      rw [h]
    · rw [List.getElem?_eq_none (by simpa using hl)]
      rfl
theorem wcell_at {t : Nat} (ht : t < 4) : wcell X G A (4 * i + t) = (gA_ad G (18 + (4 * i + t)), wE X G A i t) := by
  unfold wcell
  rw [show (4 * i + t) / 4 = i by omega, show (4 * i + t) % 4 = t by omega]
end CW
