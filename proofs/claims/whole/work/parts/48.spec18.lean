/-! ADDRESSES BY NAME: the object under the top of the stack gets its role's name. -/
section BS
variable {p : Program} {l : Launch} {e : Env} {R : Room} {s : State} {m : MethodId} {args : Array Value} {below : List Frame} {meth : Method} {c : Code} {H : Heap} {locs : List Loc} {cells slots : Nat} {Q : State → Prop}
variable {pc : Nat} {ls : Array Slot} {rest : List Value} {v w : Value} {x b : Nat}
theorem bn_0 (h : x = b) (k : W p l e R s m args below meth c H locs cells slots Q (F0 m pc ls (.ref x :: rest))) : W p l e R s m args below meth c H locs cells slots Q (F0 m pc ls (.ref b :: rest)) := h ▸ k
theorem bn_1 (h : x = b) (k : W p l e R s m args below meth c H locs cells slots Q (F0 m pc ls (v :: .ref x :: rest))) : W p l e R s m args below meth c H locs cells slots Q (F0 m pc ls (v :: .ref b :: rest)) := h ▸ k
theorem bn_2 (h : x = b) (k : W p l e R s m args below meth c H locs cells slots Q (F0 m pc ls (v :: w :: .ref x :: rest))) : W p l e R s m args below meth c H locs cells slots Q (F0 m pc ls (v :: w :: .ref b :: rest)) := h ▸ k
end BS
