/-! ===== the law's end ===== -/
theorem lw_end {p : Program} {l : Launch} {e : Env} {s : State} {m : MethodId} {below : List Frame} {meth : Method} {c : Code} {K : KE} {b : Nat} (F : Fx (p, l, e, room_1, s, m, #[Value.ref b], below, meth, c, K, lw_Z below #[Value.ref b] s) RL cL_law 4 room_1 K) (hb : c.code = code) (hr : meth.sig.returnType = ret) (hlocks : meth.locks = false) (hK : K.1 = s.heap.size) {ls : List (Nat × Value)} {M : GM} {kc ks : Nat} (h1 : kc ≤ 600000) (h2 : ks ≤ 7302250) : V (p, l, e, room_1, s, m, #[Value.ref b], below, meth, c, K, lw_Z below #[Value.ref b] s) 1917 ls [] M kc ks := by
  refine v_iconst F (v := 1) (dq dkL_law_35 11 rfl) ki_1 ?_
  intro H locs lsA hz hP hS hl
  refine va_forget (fun q hq => ?_) ?_
  · have := hS.2.2 q hq
    show s.heap.size ≤ _
    rw [← hK]; exact this
  refine W.widen h1 h2 ?_
  exact lw_ret F.1 hb hr hlocks (dq dkL_law_35 12 rfl)
