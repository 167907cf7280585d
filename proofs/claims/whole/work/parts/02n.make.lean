variable {C : Cx} {own : String} {cc : ByteArray} {nL : Nat} {R : Room} {K : KE} {pc kc ks : Nat} {ls : List (Nat × Value)} {st : List Value} {M : GM}
theorem v_aastS {n v ci : Nat} {vs : List Value} {f : Nat → Option Nat} {i : Int32} {r : vw_C} (F : Fx C own cc nL R K) (q : Nat) (hq : q < M.1) (he : M.2 q = .inl (K.2.2.1 3, n, .inr (.inr (.inr (.inr f))))) (hv : v < M.1) (hve : M.2 v = .inr (ci, vs)) (hc : vwCl[ci]? = some r) (hr : r.1 = "HollowedByFire$Sheet") (hin : vp_in i n) (hd : decode cc pc = .ok (.aastore, 1))
    (k : V C (pc + 1) ls st (gu M q (.inl (K.2.2.1 3, n, .inr (.inr (.inr (.inr (va_up f i.toNatClampNeg (some (K.1 + v)))))))) ) kc ks) : V C pc ls (.ref (K.1 + v) :: .int i :: .ref (K.1 + q) :: st) M kc ks := by
  obtain ⟨p, l, e, R0, s, m, args, below, meth, c, K0, Q⟩ := C
  obtain ⟨hx, hb, hml, hown, hts, hK, hE, hB, rfl, rfl⟩ := F
  intro H locs lsA hz hP hS hl
  have hlt : i.toNatClampNeg < n := Nat.not_le.mp fun z => hin (Or.inr z)
  have h0 : ¬ i < 0 := fun z => hin (Or.inl z)
  have hc0 : H[K0.1 + q]? = some (arrV (K0.2.2.1 3) n (fun j => va_rf (f j))) := by
    have h := hP q (K0.1 + q, .inl (K0.2.2.1 3, n, .inr (.inr (.inr (.inr f))))) ((gw_at hq).trans (by rw [he]))
    exact h
  obtain ⟨r', hr', cellV, g1, g2, g3, -⟩ := hP v (K0.1 + v, .inr (ci, vs)) ((gw_at hv).trans (by rw [hve]))
  have hcls := (hK.1 ci r hc).2
  obtain ⟨kA, comp, k1, k2, k3, -⟩ := (hK.2 3 _ rfl).2
  have hcomp : comp = K0.2.1.1 ci := Option.some.inj (k3.symm.trans (by rw [← hr]; exact hcls.1))
  subst hcomp
  obtain ⟨kC, hkC, -⟩ := hcls.2
  refine W.aast hx hb hc0 (fun z h => by cases h) (fun h => by cases h) k1 k2 rfl hkC ⟨h0, by rw [arrV_size]; exact hlt⟩ g1 (fun z h => by rw [g3] at h; cases h) (by rw [g2]; exact hkC) (by rw [g2]; exact va_assign hcls) rfl rfl hd fun H1 e1 z oq => ?_
  have hset : H1[K0.1 + q]? = some (vp_cell (K0.2.2.1 3) (n, .inr (.inr (.inr (.inr (va_up f i.toNatClampNeg (some (K0.1 + v)))))))) := by
    rw [e1, arrV_store, vp_cell_q]
    refine congrArg some (congrArg (arrV _ n) (funext fun j => ?_))
    by_cases hj : j = i.toNatClampNeg <;> simp [updV, va_up, va_rf, hj]
  exact k H1 _ lsA (by rw [z]; exact hz) (g_set hP hq hset oq) (hS.put z oq (Nat.le_add_right _ _)) hl
theorem v_anew3 {index n' kc1 ks1 : Nat} {n : Int32} (F : Fx C own cc nL R K) (hcl : Cond.classLink own index "HollowedByFire$Sheet" ∈ wsL_law) (hn : ¬ n < 0) (hn' : n.toNatClampNeg = n') (hby : n' * 4 ≤ 536870912) (hr1 : kc + 1 ≤ R.cells) (hr2 : ks + n' ≤ R.slots) (hk1 : kc + 1 = kc1) (hk2 : ks + n' = ks1) (hd : decode cc pc = .ok (.anewarray index, 3))
    (k : V C (pc + 3) ls (.ref (K.1 + M.1) :: st) (gp M (.inl (K.2.2.1 3, n', .inr (.inr (.inr (.inr (fun _ => none))))))) kc1 ks1) : V C pc ls (.int n :: st) M kc ks := by
  subst hk1; subst hk2; subst hn'
  obtain ⟨p, l, e, R0, s, m, args, below, meth, c, K0, Q⟩ := C
  obtain ⟨hx, hb, hml, hown, hts, hK, hE, hB, rfl, rfl⟩ := F
  intro H locs lsA hz hP hS hl
  refine W.anew hx hb hown (hts _ hcl) (va_AO.use hE.2.2.2.2.2.2.2.1) rfl hd rfl hn hby hr1 hr2 fun cA kA comp f1 f2 f3 f4 => ?_
  have hcA : cA = K0.2.2.1 3 := Option.some.inj (f1.symm.trans (hK.2 3 _ rfl).2.choose_spec.choose_spec.2.2.2)
  subst hcA
  generalize hH1 : H.push ({ cls := K0.2.2.1 3, slots := Array.replicate n.toNatClampNeg .null, vm := .none } : Cell) = H1
  have z1 : H1.size = H.size + 1 := by rw [← hH1, Array.size_push]
  have e1 : H1[H.size]? = some (arrV (K0.2.2.1 3) n.toNatClampNeg (fun _ => .null)) := by rw [← hH1, Array.getElem?_push_size, ← arrV_new]
  have o1 : ∀ q : Nat, q < H.size → H1[q]? = H[q]? := fun q hq => by rw [← hH1, Array.getElem?_push, if_neg (Nat.ne_of_lt hq)]
  rw [hz]
  rw [hz] at e1
  exact k H1 locs lsA (by rw [z1]; show _ = K0.1 + (M.1 + 1); omega) (g_push hP e1 o1) (g_S hB hS z1 o1) hl
theorem v_anew4 {index n' kc1 ks1 : Nat} {n : Int32} (F : Fx C own cc nL R K) (hcl : Cond.classLink own index "HollowedByFire$Tree" ∈ wsL_law) (hn : ¬ n < 0) (hn' : n.toNatClampNeg = n') (hby : n' * 4 ≤ 536870912) (hr1 : kc + 1 ≤ R.cells) (hr2 : ks + n' ≤ R.slots) (hk1 : kc + 1 = kc1) (hk2 : ks + n' = ks1) (hd : decode cc pc = .ok (.anewarray index, 3))
    (k : V C (pc + 3) ls (.ref (K.1 + M.1) :: st) (gp M (.inl (K.2.2.1 4, n', .inr (.inr (.inr (.inr (fun _ => none))))))) kc1 ks1) : V C pc ls (.int n :: st) M kc ks := by
  subst hk1; subst hk2; subst hn'
  obtain ⟨p, l, e, R0, s, m, args, below, meth, c, K0, Q⟩ := C
  obtain ⟨hx, hb, hml, hown, hts, hK, hE, hB, rfl, rfl⟩ := F
  intro H locs lsA hz hP hS hl
  refine W.anew hx hb hown (hts _ hcl) (va_AO.use hE.2.2.2.2.2.2.2.2.1) rfl hd rfl hn hby hr1 hr2 fun cA kA comp f1 f2 f3 f4 => ?_
  have hcA : cA = K0.2.2.1 4 := Option.some.inj (f1.symm.trans (hK.2 4 _ rfl).2.choose_spec.choose_spec.2.2.2)
  subst hcA
  generalize hH1 : H.push ({ cls := K0.2.2.1 4, slots := Array.replicate n.toNatClampNeg .null, vm := .none } : Cell) = H1
  have z1 : H1.size = H.size + 1 := by rw [← hH1, Array.size_push]
  have e1 : H1[H.size]? = some (arrV (K0.2.2.1 4) n.toNatClampNeg (fun _ => .null)) := by rw [← hH1, Array.getElem?_push_size, ← arrV_new]
  have o1 : ∀ q : Nat, q < H.size → H1[q]? = H[q]? := fun q hq => by rw [← hH1, Array.getElem?_push, if_neg (Nat.ne_of_lt hq)]
  rw [hz]
  rw [hz] at e1
  exact k H1 locs lsA (by rw [z1]; show _ = K0.1 + (M.1 + 1); omega) (g_push hP e1 o1) (g_S hB hS z1 o1) hl
theorem v_last {n : Nat} {f : Nat → Int64} {i : Int32} {x : Int64} (F : Fx C own cc nL R K) (q : Nat) (hq : q < M.1) (he : M.2 q = .inl (K.2.2.1 1, n, .inr (.inl f))) (hin : vp_in i n) (hd : decode cc pc = .ok (.lastore, 1))
    (k : V C (pc + 1) ls st (gu M q (.inl (K.2.2.1 1, n, .inr (.inl (vp_updL f i.toNatClampNeg x))))) kc ks) : V C pc ls (.long x :: .int i :: .ref (K.1 + q) :: st) M kc ks := by
  obtain ⟨p, l, e, R0, s, m, args, below, meth, c, K0, Q⟩ := C
  obtain ⟨hx, hb, hml, hown, hts, hK, hE, hB, rfl, rfl⟩ := F
  intro H locs lsA hz hP hS hl
  have hc : H[K0.1 + q]? = some (arrV (K0.2.2.1 1) n (fun j => .long (f j))) := hP q (K0.1 + q, .inl (K0.2.2.1 1, n, .inr (.inl f))) ((gw_at hq).trans (by rw [he]))
  refine W.last hx hb hc ((hK.2 1 _ rfl).1 n (fun j => .long (f j))) (fun z => by cases z) (by show ¬ (i < 0 ∨ (arrV _ _ _).slots.size ≤ _); rw [arrV_size]; exact hin) rfl rfl hd fun H1 e1 z oq => ?_
  have hset : H1[K0.1 + q]? = some (arrV (K0.2.2.1 1) n (fun j => .long (vp_updL f i.toNatClampNeg x j))) := by
    rw [e1, arrV_store]
    refine congrArg some (congrArg (arrV _ n) (funext fun j => ?_))
    by_cases hj : j = i.toNatClampNeg <;> simp [updV, vp_updL, hj]
  exact k H1 _ lsA (by rw [z]; exact hz) (g_set hP hq hset oq) (hS.put z oq (Nat.le_add_right _ _)) hl
