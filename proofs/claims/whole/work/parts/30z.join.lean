section JN1
variable {p : Program} {l : Launch} {e : Env} {R : Room} {s : State} {m : MethodId} {args : Array Value} {below : List Frame} {meth : Method} {c : Code} {H : Heap} {locs : List Loc} {cells slots : Nat} {Q : State → Prop}
/-- roads that meet again, with one value -/
theorem jn_ {g : JFrame} {J : Nat} {ls : Array Slot} {v : Value} {rest : List Value} (h : W p l e R s m args below meth c H locs cells slots Q (F0 m J ls (v :: rest)) → W p l e R s m args below meth c H locs cells slots Q g)
    (k : W p l e R s m args below meth c H locs cells slots Q (F0 m J ls (v :: rest))) : W p l e R s m args below meth c H locs cells slots Q g := h k
end JN1
theorem nf_ {x : Int32} (h : x = 0 ∨ x = 1) : fits .boolean (.int x) = true := by
  rcases h with rfl | rfl <;> rfl
