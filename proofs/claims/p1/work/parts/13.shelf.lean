/-! ===== rows over the library's shelf: a catch, multianewarray of numbers ===== -/
section HP3
variable {M : hpM} {G : hpG} {y : MethodName} {cc : ByteArray} {nL d : Nat} {h0 h : hpT} {Q : State → Prop} {pc : Nat} {lo : Nat → Option Value} {st : List Value}
theorem hp_catch (C : hp_F M G y cc nL d h0) {E name : String} (pre : List ExceptionTableEntry) (x : ExceptionTableEntry) (suf : List ExceptionTableEntry) (hsplit : (hp_cd M).exceptionTable.toList = pre ++ x :: suf)
    (hpass : ∀ z ∈ pre, covers z pc = false ∨ (z.catchType ≠ 0 ∧ ∃ nm : String, Cond.classLink y.cls z.catchType nm ∈ hp_ws ∧ (E, nm) ∈ hp_nc)) (hx : covers x pc = true) (h00 : x.catchType ≠ 0)
    (w1 : Cond.classLink y.cls x.catchType name ∈ hp_ws) (w2 : Cond.castable E name ∈ hp_ow) (kk : ∀ q : Nat, hp_V M G nL Q h x.handlerPc lo [.ref q]) : hp_VX M G nL Q h pc lo st E := by
  sorry
end HP3
