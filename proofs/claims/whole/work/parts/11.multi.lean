/-! new int[N][Q]; rows of the class's own constants; a class's fields -/
def hpII (h : PH) (n N Q : Nat) : PH := fun j => if j = n then cR 1 N (fun i => if i < N then some (n + 1 + i) else none) else if n < j ∧ j ≤ n + N then cI Q (fun _ => 0) else h j
theorem vr_outer (c : ClassId) (N h0 : Nat) : ∀ i : Nat, Jvm.Free.Multi.outerC c N h0 i = arrV c N (fun j => va_rf (if j < i then some (h0 + 1 + j) else none))
  | 0 => by
    show ({ cls := c, slots := Array.replicate N .null, vm := .none } : Cell) = _
    rw [arrV_new]
    refine congrArg (arrV c N) (funext fun j => ?_)
    simp [va_rf]
  | i + 1 => by
    show (Jvm.Free.Multi.outerC c N h0 i).setSlot i (.ref (h0 + 1 + i)) = _
    rw [vr_outer c N h0 i, arrV_store]
    refine congrArg (arrV c N) (funext fun j => ?_)
    by_cases e : j = i
    · subst e
      simp [updV, va_rf]
    · by_cases h : j < i
      · simp [updV, e, h, Nat.lt_succ_of_lt h]
      · simp [updV, e, h, show ¬ j < i + 1 by omega]
section QMULTI
variable {M : MD} {d mc ms : Nat} {F : FT} {k u pc pc' : Nat} {L : List (Option PV)} {S : List PV} {a : Bool} {n : Nat} {h : PH}
theorem q_newII {i : Nat} {x y : Int} (N Q : Nat) (hx : x = (N : Int)) (hy : y = (Q : Int)) (hw : Cond.classLink M.1 i "[[I" ∈ TB) (hwa : Cond.arrayClass .int ∈ TB) (hdg : decode M.2.2.1 pc = .ok (.multianewarray i 2, 4)) (hb : N ≤ 1000000) (hb2 : Q ≤ 1000000) (hkc : k + 1 + N ≤ mc) (huc : u + N + N * Q ≤ ms) (hq : pc + 4 = pc') (kk : QW M d mc ms F (k + 1 + N) (u + N + N * Q) pc' L (vR n :: S) true (n + 1 + N) (hpII h n N Q)) : QW M d mc ms F k u pc L (vI y :: vI x :: S) true n h := by
  subst hq
  subst hx
  subst hy
  intro p l e R s m args below meth c D B K X H locs ls O Hl HP Hs HS
  obtain ⟨hx', hb', hr, hml, hown, hts, hlocks, hname, ⟨r1, r2, r3, r4⟩, hWd, htab⟩ := id O
  have hs := Hs rfl
  have eN : (Int32.ofInt (N : Int)).toNatClampNeg = N := by rw [o32_nat (by omega)]; rfl
  have eQ : (Int32.ofInt (Q : Int)).toNatClampNeg = Q := by rw [o32_nat (by omega)]; rfl
  intro T hT Xs
  have hlk : (Cond.classLink M.1 i ("[" ++ (FieldType.array .int).toString)).before args s = true := hts _ hw
  obtain ⟨vm₁, cA, comp, -, fA, fC, hO, -, X', step⟩ := Xs.multianewarray2F (ty := .int) hx' hown hlk (hWd.2.2.2.2.1 : va_AOA .int s) (hts _ hwa) (g := F0 m pc ls (.int (Int32.ofInt (Q : Int)) :: .int (Int32.ofInt (N : Int)) :: S.map (tv B))) rfl (by rw [hb']; exact hdg) rfl (fun z => by have := (o32_lt0 (by omega)).mp z; omega) (fun z => by have := (o32_lt0 (by omega)).mp z; omega) (by rw [eN]; omega) (by rw [eQ]; show Q * 4 ≤ _; omega) (by rw [eQ]; omega) rfl rfl (by rw [eN]; omega) (by rw [eN, eQ]; omega)
  rw [eN, eQ] at X' step
  have hcA : cA = K 3 := Option.some.inj (fA.symm.trans (hWd.1.2 3 _ rfl).2)
  have hcC : comp = K 0 := Option.some.inj (fC.symm.trans (hWd.1.2 0 _ rfl).2)
  subst hcA
  subst hcC
  generalize hF : Jvm.Free.Multi.fill (T.setVm vm₁) (K 3) (K 0) N Q (defaultValue .int) N = G at X' step
  have hTh : (T.setVm vm₁).heap = H := hT
  obtain ⟨f1, f2, -, -⟩ := Jvm.Free.Multi.fill_facts (T.setVm vm₁) (K 3) (K 0) N Q (defaultValue .int) N
  rw [hF, hTh] at f1 f2
  have hold : ∀ x : Nat, x < H.size → G.heap[x]? = H[x]? := fun x hx => by
    have := Jvm.Free.Multi.fill_old (T.setVm vm₁) (K 3) (K 0) N Q (defaultValue .int) (a := x) (by rw [hTh]; exact hx) N
    rw [hF, hTh] at this
    exact this
  have hrow : ∀ j : Nat, j < N → G.heap[H.size + 1 + j]? = some (vp_cell (K 0) (Q, .inl (fun _ => Int32.ofInt 0))) := fun j hj => by
    have := Jvm.Free.Multi.fill_inner (T.setVm vm₁) (K 3) (K 0) N Q (defaultValue .int) N j hj
    rw [hF, hTh] at this
    rw [this, vp_cell_i]
    show some ({ cls := K 0, slots := Array.replicate Q _, vm := .none } : Cell) = _
    rw [arrV_new]
    have : defaultValue .int = Value.int (Int32.ofInt 0) := by decide +kernel
    rw [this]
  rw [vr_outer] at f2
  rw [hs] at f1 f2 hrow
  have hPn : va_P D vwCl (wsO B K (n + 1 + N) (hpII h n N Q)) G.heap := by
    intro k0 q hk0
    obtain ⟨hl, rfl⟩ := wsO_inv hk0
    by_cases c1 : k0 = n
    · subst c1
      have e1 : hpII h k0 N Q k0 = cR 1 N (fun i => if i < N then some (k0 + 1 + i) else none) := if_pos rfl
      rw [e1]
      show G.heap[B + k0]? = some (vp_cell _ _)
      rw [f2, vp_cell_q]
      congr 2
      funext j
      by_cases hj : j < N
      · simp [hj, Nat.add_assoc]
      · simp [hj]
    · by_cases c2 : n < k0 ∧ k0 ≤ n + N
      · have e1 : hpII h n N Q k0 = cI Q (fun _ => 0) := by unfold hpII; rw [if_neg c1, if_pos c2]
        rw [e1]
        show G.heap[B + k0]? = some (vp_cell _ _)
        rw [show B + k0 = B + n + 1 + (k0 - n - 1) by omega, hrow (k0 - n - 1) (by omega)]
      · have e1 : hpII h n N Q k0 = h k0 := by unfold hpII; rw [if_neg c1, if_neg c2]
        rw [e1]
        have hlt : k0 < n := by omega
        exact (HP k0 _ (wsO_get hlt)).kept (hold _ (by rw [hs]; show B + k0 < B + n; omega))
  obtain ⟨t, a1, b1⟩ := kk p l e R s m args below meth c D B K X G.heap locs ls O Hl hPn (fun _ => by rw [f1]; omega) (HS_push HS (by rw [f1, hs]; omega) hold) G rfl X'
  refine ⟨t, step t ?_, b1⟩
  have e2 : T.heap.size = B + n := by rw [hT, hs]
  rw [e2]
  exact a1
/-- the constants' rows LEAST_VALUE, GREATEST_VALUE of the class -/
theorem q_lo {i x0 : Nat} {x : Int} (q : Nat) (hx : x = (q : Int)) (hq5 : q < 5) (hw : Cond.fieldLink M.1 i "BatchMachine" "LEAST_VALUE" "[I" ∈ TB) (hdg : decode M.2.2.1 pc = .ok (.getstatic i, 3)) (d1 : decode M.2.2.1 (pc + 3) = .ok (.iload_n 0, 1)) (d2 : decode M.2.2.1 (pc + 3 + 1) = .ok (.iaload, 1)) (hl : L[0]? = some (some (vI x))) (hq : pc + 5 = pc') (kk : QW M d mc ms F k u pc' L (vI (rowLo q) :: S) a n h) : QW M d mc ms F k u pc L S a n h := by
  subst hq
  intro p l e R s m args below meth c D B K X H locs ls O Hl HP Hs HS
  obtain ⟨hx', hb', hr, hml, hown, hts, hlocks, hname, hroom, hWd, htab⟩ := id O
  obtain ⟨h1, h2⟩ := o32_idx hx hq5 (by omega)
  refine va_gets hx' hb' hWd.2.2.2.2.2.1.1 HS hown (hts _ hw) (fun _ h9 => h9) hdg ?_
  refine lv_iload_n hx' hb' d1 rfl (lr_get Hl hl) ?_
  refine va_ti hx' hb' hWd.2.2.2.2.2.1.2 HS h1 rfl d2 ?_
  rw [h2]
  exact kk p l e R s m args below meth c D B K X H locs ls O Hl HP Hs HS
theorem q_hi {i x0 : Nat} {x : Int} (q : Nat) (hx : x = (q : Int)) (hq5 : q < 5) (hw : Cond.fieldLink M.1 i "BatchMachine" "GREATEST_VALUE" "[I" ∈ TB) (hdg : decode M.2.2.1 pc = .ok (.getstatic i, 3)) (d1 : decode M.2.2.1 (pc + 3) = .ok (.iload_n 0, 1)) (d2 : decode M.2.2.1 (pc + 3 + 1) = .ok (.iaload, 1)) (hl : L[0]? = some (some (vI x))) (hq : pc + 5 = pc') (kk : QW M d mc ms F k u pc' L (vI (rowHi q) :: S) a n h) : QW M d mc ms F k u pc L S a n h := by
  subst hq
  intro p l e R s m args below meth c D B K X H locs ls O Hl HP Hs HS
  obtain ⟨hx', hb', hr, hml, hown, hts, hlocks, hname, hroom, hWd, htab⟩ := id O
  obtain ⟨h1, h2⟩ := o32_idx hx hq5 (by omega)
  refine va_gets hx' hb' hWd.2.2.2.2.2.2.1.1 HS hown (hts _ hw) (fun _ h9 => h9) hdg ?_
  refine lv_iload_n hx' hb' d1 rfl (lr_get Hl hl) ?_
  refine va_ti hx' hb' hWd.2.2.2.2.2.2.1.2 HS h1 rfl d2 ?_
  rw [h2]
  exact kk p l e R s m args below meth c D B K X H locs ls O Hl HP Hs HS
theorem q_hi3 {i : Nat} (hw : ∃ host, Cond.fieldLinkNest M.1 i "BatchMachine" "GREATEST_VALUE" "[I" host ∈ TN) (hdg : decode M.2.2.1 pc = .ok (.getstatic i, 3)) (d1 : decode M.2.2.1 (pc + 3) = .ok (.iconst 3, 1)) (d2 : decode M.2.2.1 (pc + 3 + 1) = .ok (.iaload, 1)) (hq : pc + 5 = pc') (kk : QW M d mc ms F k u pc' L (vI 500 :: S) a n h) : QW M d mc ms F k u pc L S a n h := by
  subst hq
  intro p l e R s m args below meth c D B K X H locs ls O Hl HP Hs HS
  obtain ⟨hx', hb', hr, hml, hown, hts, hlocks, hname, hroom, hWd, htab⟩ := id O
  obtain ⟨h1, h2⟩ := o32_idx (x := 3) (i := 3) (N := 5) rfl (by omega) (by omega)
  obtain ⟨host, hw⟩ := hw
  refine va_getsN hx' hb' hWd.2.2.2.2.2.2.1.1 HS hown (va_Nw.use rfl (hWd.2.2.1 _ hw)) (fun _ h9 => h9) hdg ?_
  refine lv_iconst hx' hb' d1 rfl ?_
  refine va_ti hx' hb' hWd.2.2.2.2.2.2.1.2 HS h1 rfl d2 ?_
  rw [h2]
  exact kk p l e R s m args below meth c D B K X H locs ls O Hl HP Hs HS
end QMULTI
