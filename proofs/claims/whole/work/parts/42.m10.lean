section LL
variable {p : Program} {l : Launch} {e : Env} {R : Room} {s : State} {m : MethodId} {args : Array Value} {below : List Frame} {meth : Method} {c : Code} {H : Heap} {locs : List Loc} {cells slots : Nat} {Q : State → Prop} {pc : Nat} {ls : Array Slot} {rest : List Value}
theorem ll_eq {v w : Int64} (h : v = w) (k : W p l e R s m args below meth c H locs cells slots Q (F0 m pc ls (.long w :: rest))) : W p l e R s m args below meth c H locs cells slots Q (F0 m pc ls (.long v :: rest)) := by rw [h]; exact k
end LL
theorem cd_step {tx : Nat → Nat} {b k : Nat} (h : ∀ i, i < k → qL (tx (b + i)) = true) (hk : k < 9) (hq : qL (tx (b + k)) = true) (hc : tx (b + k) < 256) : (27 : Int64) * cdI tx b k + (nI (tx (b + k))).toInt64 - 96 = cdI tx b (k + 1) := by
  have h1 := cdN_lt h
  have h2 : 27 ^ k ≤ 27 ^ 8 := Nat.pow_le_pow_right (by decide) (by omega)
  have h3 := of_decide_eq_true hq
  have e1 : (27 : Int64) = lN 27 := rfl
  have e2 : (96 : Int64) = lN 96 := rfl
  rw [cdI, if_pos (by omega), cdI, if_pos (by omega), nI_l (by omega), e1, e2, lN_mul, lN_add, lN_sub (by omega), cdN]
  congr 1
  omega
theorem cd_over {tx : Nat → Nat} {b k : Nat} (hk : ¬ k < 9) : (-4 : Int64) = cdI tx b (k + 1) := by rw [cdI, if_neg (by omega)]
