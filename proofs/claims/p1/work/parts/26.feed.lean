section ZF
variable {p : Program} {l : Launch} {e : Env} {s : State} {m : MethodId} {below : List Frame} {meth : Method} {c : Code} {D : va_G} {dA : Nat → ClassId} {adK adV : Nat → Nat} {b : Nat} {sl : List zi_V} {xs : Nat → Int32}
theorem zi_op0 (C : zi_Cx p room_1 s m #[Value.ref b] meth c s.heap.size D dA adK adV b zi_mlaw 40 []) (hX : va_X b 7 xs s s.heap) (hbl : b < s.heap.size) {ws : va_W} {H : Heap} {locs : List Loc} {ls : Array Slot} {sc : List Value} (hS : zi_St s.heap.size D dA adK adV b 7 s zi_f0 ws H locs ls sc) : zi_W p l e room_1 s m #[Value.ref b] below meth c (lw_Z below #[Value.ref b] s) 100 177797 188 H locs ls sc := by
  have hx : ∀ x : Int32, ∀ ad, zi_vr ad (.inl (.int x)) (.int x) := fun _ _ => rfl
  exact zi_fin_ok (zi_scr C hX hbl (hx (xs 0)) (hx (xs 1)) (hx (xs 2)) (hx (xs 3)) (hx (xs 4)) (hx (xs 5)) (hx (xs 6))) (zi_o0 (xs 0) (xs 1) (xs 2) (xs 3) (xs 4) (xs 5) (xs 6)) (zi_f0_at hS)
end ZF
