/-- n rows of k numbers each -/
def hp_mkM (h : hpT) (n k : Nat) : hpT := (h.1 + 1 + n, h.2.1 + (n + n * k), (fun b => if b < h.1 then hp_kd h b else if b = h.1 then 15 else if b < h.1 + 1 + n then 10 else hp_kd h b), (fun b => if b < h.1 then hp_ln h b else if b = h.1 then n else if b < h.1 + 1 + n then k else hp_ln h b), h.2.2.2.2.1,
  (fun b i => if b < h.1 then hp_ar h b i else if b = h.1 then .ref (h.1 + 1 + i) else if b < h.1 + 1 + n then .int 0 else hp_ar h b i))
