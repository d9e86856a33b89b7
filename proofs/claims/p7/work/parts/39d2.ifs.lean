section ZIF
variable {M : zM} {al : Bool} {n0 kc ks a b : Nat} {l : zL} {st : List Value} {w : zW} {Q : Option Value → zW → Prop}
theorem zv_ift {c : Prop} [Decidable c] (h : c) (k : zV M al n0 kc ks a l st w Q) : zV M al n0 kc ks (if c then a else b) l st w Q := by rw [if_pos h]; exact k
theorem zv_iff {c : Prop} [Decidable c] (h : ¬ c) (k : zV M al n0 kc ks b l st w Q) : zV M al n0 kc ks (if c then a else b) l st w Q := by rw [if_neg h]; exact k
theorem zv_ifb {c : Prop} [Decidable c] (kt : c → zV M al n0 kc ks a l st w Q) (kf : ¬ c → zV M al n0 kc ks b l st w Q) : zV M al n0 kc ks (if c then a else b) l st w Q := by
  by_cases h : c
  · rw [if_pos h]; exact kt h
  · rw [if_neg h]; exact kf h
end ZIF
