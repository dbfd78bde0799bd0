def xwr {R : Type} (i : Int32) (K : Int32 → Option R) : Option R := if i < 0 ∨ 6 ≤ i.toNatClampNeg then none else K (xwo i.toNatClampNeg)
def xch {R : Type} (i : Int32) (K : Int32 → Option R) : Option R := if i < 0 ∨ 98 ≤ i.toNatClampNeg then none else K ((xsb.getD 0 []).getD i.toNatClampNeg 0)
theorem xS.v {G : XG} {H0 H : Heap} {locs : List Loc} (hS : xS G H0 H locs) : va_S (xfr G) H0 H locs := ⟨Nat.le_of_eq hS.1.symm, fun q _ h => hS.2.1 q (Nat.not_le.mp h), hS.2.2⟩
section XST
variable {G : XG} {kp : Bool} {p : Program} {l : Launch} {e : Env} {R : Room} {s : State} {m : MethodId} {args : Array Value} {below : List Frame} {meth : Method} {c : Code} {H : Heap} {locs : List Loc} {cells slots : Nat} {Q : State → Prop} {cc : ByteArray} {nL pc : Nat} {own : String} {ret : Option FieldType} {ls : Array Slot} {rest : List Value} {I : xTI} {L : xTL} {Rt : Type} {r : Rt}
theorem x_gsW {idx : Nat} (hC : xC G p s m args meth c cc nL own ret) (hS : xS G s.heap H locs) (hR : xRep G kp I L H) (hlk : Cond.fieldLink own idx "AccountDay$Rules" "WITHOUT" "[I" ∈ lw_tbl) (hdg : decode cc pc = .ok (.getstatic idx, 3))
    (kk : W p l e R s m args below meth c H locs cells slots Q (F0 m (pc + 3) ls (.ref (xaW G) :: rest))) : W p l e R s m args below meth c H locs cells slots Q (F0 m pc ls rest) :=
  va_gets hC.1 hC.2.1 hC.2.2.2.2.2.2.2.2.1 hS.v hC.2.2.2.1 (hC.2.2.2.2.1.use hlk rfl args) (fun _ h => h) hdg kk
theorem x_wal {i : Int32} {K : Int32 → Option Rt} (hC : xC G p s m args meth c cc nL own ret) (hS : xS G s.heap H locs) (hR : xRep G kp I L H) (hdg : decode cc pc = .ok (.iaload, 1)) (hf : xwr i K = some r)
    (kk : ∀ v : Int32, K v = some r → W p l e R s m args below meth c H locs cells slots Q (F0 m (pc + 1) ls (.int v :: rest))) : W p l e R s m args below meth c H locs cells slots Q (F0 m pc ls (.int i :: .ref (xaW G) :: rest)) := by
  unfold xwr at hf
  split at hf
  · cases hf
  · rename_i hin
    exact va_ti hC.1 hC.2.1 hC.2.2.2.2.2.2.2.2.2.1 hS.v (show vp_in i 6 from hin) rfl hdg (kk _ hf)
theorem x_ldS (hC : xC G p s m args meth c cc nL "AccountDay$Tape" ret) (hdg : decode cc pc = .ok (.ldc 87, 2))
    (kk : W p l e R s m args below meth c H locs cells slots Q (F0 m (pc + 2) ls (.ref (xaS G) :: rest))) : W p l e R s m args below meth c H locs cells slots Q (F0 m pc ls rest) :=
  va_ldcS hC.1 hC.2.1 hC.2.2.2.1 hC.2.2.2.2.2.2.2.2.2.2.1 hdg kk
end XST
