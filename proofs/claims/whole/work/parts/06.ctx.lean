/-! What a method finds of the tables, and pictures of the class's world. Own work. -/
theorem vx_P {D : va_G} {cl : List vw_C} {ws ws' : va_W} {H : Heap} (e : ws = ws') (h : va_P D cl ws H) : va_P D cl ws' H := e ▸ h
theorem vx_D {A : Nat → Prop} {ws ws' : va_W} (e : ws = ws') (h : va_D A ws) : va_D A ws' := e ▸ h
theorem NL_all : ∀ w ∈ NL, isNw w = true := List.all_eq_true.mp (by decide +kernel : NL.all isNw = true)
def KK (X : Xt) (U : State) : Prop := va_K X.1 classes (tysX X) U ∧ (∀ w ∈ NL, va_Nw w U) ∧ va_AO "ClusterTool$Wafer" U ∧ va_AO "ClusterTool$Route" U
theorem KK.warm {X : Xt} {s U : State} (h : KK X s) (hW : s.WarmedH U.vm) : KK X U :=
  ⟨va_K.moved hW.alike h.1, fun w hw => isNw_warm (NL_all w hw) hW (h.2.1 w hw), va_AO.moved hW.alike h.2.2.1, va_AO.moved hW.alike h.2.2.2⟩
theorem KK.calling {X : Xt} {U : State} {g : JFrame} {mk : MethodId} {a : Array Value} (h : KK X U) : KK X (U.calling g mk a) :=
  ⟨va_K.moved (u := U) (U := U.calling g mk a) (Vm.Alike.refl U.vm) h.1, fun w hw => va_Nw.same (u := U) (U := U.calling g mk a) (isNw_tab (NL_all w hw)) rfl (h.2.1 w hw), va_AO.moved (u := U) (U := U.calling g mk a) (Vm.Alike.refl U.vm) h.2.2.1, va_AO.moved (u := U) (U := U.calling g mk a) (Vm.Alike.refl U.vm) h.2.2.2⟩
def PR (X : Xt) (G : Gc) (A : St) (h : Heap) : Prop := va_P X.1 classes (cw X G A) h
def PW (X : Xt) (Af : Nat → Prop) (G : Gc) (A : St) (h : Heap) : Prop := va_P X.1 classes (cw X G A) h ∧ va_D Af (cw X G A)
def QR (X : Xt) (G : Gr) (A : St) (h : Heap) : Prop := va_P X.1 classes (rw_ X G A) h
def QW (X : Xt) (Af : Nat → Prop) (G : Gr) (A : St) (h : Heap) : Prop := va_P X.1 classes (rw_ X G A) h ∧ va_D Af (rw_ X G A)
theorem vx_preS {X : Xt} {s : State} {H : Heap} {As : List Value} {P : Heap → Prop} (hP : P H) (hK : KK X s) : PreS s H (va_Pc As (fun U => P U.heap ∧ KK X U)) As :=
  ⟨fun a U g mk q => ⟨q.1, q.2.1, q.2.2.calling⟩, fun U hU hW => ⟨rfl, by rw [hU]; exact hP, hK.warm hW⟩⟩
theorem vx_preV {X : Xt} {s : State} {H : Heap} {b : Addr} {C : String} {As : List Value} {P : Heap → Prop} (hP : P H) (hK : KK X s) (hb : ∃ cellB : Cell, H[b]? = some cellB ∧ cellB.vm.isStatics = false ∧ s.vm.findClass C = some cellB.cls) : PreV s H C b (va_Pc (.ref b :: As) (fun U => P U.heap ∧ KK X U)) As :=
  ⟨fun a U g mk q => ⟨q.1, q.2.1, q.2.2.calling⟩, hb, fun U hU hW => ⟨rfl, by rw [hU]; exact hP, hK.warm hW⟩⟩
def atC (X : Xt) (Af : Nat → Prop) (u : Gc × St) (t : State) : Prop := PW X Af u.1 u.2 t.heap
def atR (X : Xt) (Af : Nat → Prop) (u : Gr × St) (t : State) : Prop := QW X Af u.1 u.2 t.heap
