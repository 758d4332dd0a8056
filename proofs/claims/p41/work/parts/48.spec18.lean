/-! ADDRESSES BY NAME: the object under the top of the stack gets its role's name. -/
section BS
variable {p : Program} {l : Launch} {e : Env} {R : Room} {s : State} {m : MethodId} {args : Array Value} {below : List Frame} {meth : Method} {c : Code} {H : Heap} {locs : List Loc} {cells slots : Nat} {Q : State → Prop}
variable {pc : Nat} {ls : Array Slot} {rest : List Value} {v w : Value} {x b : Nat}
theorem bn_0 (h : x = b) (k : W p l e R s m args below meth c H locs cells slots Q (F0 m pc ls (.ref x :: rest))) : W p l e R s m args below meth c H locs cells slots Q (F0 m pc ls (.ref b :: rest)) := h ▸ k
theorem bn_1 (h : x = b) (k : W p l e R s m args below meth c H locs cells slots Q (F0 m pc ls (v :: .ref x :: rest))) : W p l e R s m args below meth c H locs cells slots Q (F0 m pc ls (v :: .ref b :: rest)) := h ▸ k
theorem bn_2 (h : x = b) (k : W p l e R s m args below meth c H locs cells slots Q (F0 m pc ls (v :: w :: .ref x :: rest))) : W p l e R s m args below meth c H locs cells slots Q (F0 m pc ls (v :: w :: .ref b :: rest)) := h ▸ k
end BS
theorem vp_fresh_X0 : ∀ j, j < 10 → defaultValue (tyX0 j) = vp_V [.int 0, .int 0, .null, .null, .null, .int 0, .int 0, .null, .int 0, .int 0] j := fun j hj => match j, hj with | 0, _ => rfl | 1, _ => rfl | 2, _ => rfl | 3, _ => rfl | 4, _ => rfl | 5, _ => rfl | 6, _ => rfl | 7, _ => rfl | 8, _ => rfl | 9, _ => rfl | _ + 10, h => absurd h (by omega)
theorem vp_fresh_X1 : ∀ j, j < 1 → defaultValue (tyX1 j) = vp_V [.int 0] j := fun j hj => match j, hj with | 0, _ => rfl | _ + 1, h => absurd h (by omega)
theorem vp_fresh_X4 : ∀ j, j < 6 → defaultValue (tyX4 j) = vp_V [.int 0, .int 0, .int 0, .int 0, .int 0, .int 0] j := fun j hj => match j, hj with | 0, _ => rfl | 1, _ => rfl | 2, _ => rfl | 3, _ => rfl | 4, _ => rfl | 5, _ => rfl | _ + 6, h => absurd h (by omega)
theorem vp_fresh_X5 : ∀ j, j < 1 → defaultValue (tyX5 j) = vp_V [.null] j := fun j hj => match j, hj with | 0, _ => rfl | _ + 1, h => absurd h (by omega)
theorem vp_fresh_X6 : ∀ j, j < 6 → defaultValue (tyX6 j) = vp_V [.null, .null, .null, .null, .null, .int 0] j := fun j hj => match j, hj with | 0, _ => rfl | 1, _ => rfl | 2, _ => rfl | 3, _ => rfl | 4, _ => rfl | 5, _ => rfl | _ + 6, h => absurd h (by omega)
theorem vp_fresh_Jx4a65c : ∀ j, j < 3 → defaultValue (tyJx4a65c j) = vp_V [.int 0, .null, .int 0] j := fun j hj => match j, hj with | 0, _ => rfl | 1, _ => rfl | 2, _ => rfl | _ + 3, h => absurd h (by omega)
