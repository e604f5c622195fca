/-- n rows of k numbers each -/
def hp_mkM (h : hpT) (n k : Nat) : hpT := (h.1 + 1 + n, h.2.1 + (n + n * k), (fun b => if b < h.1 then hp_kd h b else if b = h.1 then 15 else if b < h.1 + 1 + n then 10 else hp_kd h b), (fun b => if b < h.1 then hp_ln h b else if b = h.1 then n else if b < h.1 + 1 + n then k else hp_ln h b), h.2.2.2.2.1,
  (fun b i => if b < h.1 then hp_ar h b i else if b = h.1 then .ref (h.1 + 1 + i) else if b < h.1 + 1 + n then .int 0 else hp_ar h b i))
section HP4
variable {M : hpM} {G : hpG} {y : MethodName} {cc : ByteArray} {nL d : Nat} {h0 h : hpT} {Q : State → Prop} {pc : Nat} {lo : Nat → Option Value} {st : List Value}
theorem hp_multi (C : hp_F M G y cc nL d h0) {idx : Nat} {n k : Int32} (w1 : Cond.classLink y.cls idx "[[I" ∈ hp_ws) (dd : decode cc pc = .ok (.multianewarray idx 2, 4)) (hn : ¬ n < 0) (hk : ¬ k < 0) (hn4 : n.toNatClampNeg < 10) (hk4 : k.toNatClampNeg ≤ 1000) (hcl : hp_nx h + 20 ≤ hp_n0 G + hp_LC) (hsl : hp_sl h + 12000 ≤ hp_LS)
    (kk : hp_V M G nL Q (hp_mkM h n.toNatClampNeg k.toNatClampNeg) (pc + 4) lo (.ref (hp_nx h) :: st)) : hp_V M G nL Q h pc lo (.int k :: .int n :: st) := by
  sorry
end HP4
