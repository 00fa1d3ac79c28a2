/-! THE LAW'S WRAPPERS -/
def MCI (M : MD) (As : List PV) (σ : CS) (x v : Int) (σ' : CS) : Prop := ∀ (d : Nat) (h : PH) (th : Int), 30 ≤ d → MOI 169 h 149 th σ → CtrI M d (vR 149 :: As) 169 h (fun v' h' => (x = 0 → nrI v' = v) ∧ MOI 169 h' 149 x σ' ∧ Fr h h' 149 168)
def MCJ (M : MD) (As : List PV) (σ : CS) (x v : Int) (σ' : CS) : Prop := ∀ (d : Nat) (h : PH) (th : Int), 30 ≤ d → MOI 169 h 149 th σ → CtrJ M d (vR 149 :: As) 169 h (fun v' h' => (x = 0 → v' = v) ∧ MOI 169 h' 149 x σ' ∧ Fr h h' 149 168)
/-- what a wrapper leaves: its number x, the answer v in out if x = 0, the object's new state; the model's answer -/
def WPost (h : PH) (MC : Int → Int → CS → Prop) : Option PV → Nat → PH → Prop := fun r n' h' => n' = 169 ∧ ∃ (x v : Int) (σ' : CS), r = some (vI x) ∧ (0 ≤ x ∧ x ≤ 2) ∧ MC x v σ' ∧ BMI 169 h' 0 σ' ∧ BOk σ' ∧ (∃ f, At1 169 h' 168 (cJ 1 f) ∧ (x = 0 → f 0 = v)) ∧ (∀ k, 149 ≤ k → k < 168 → h' k = h k)
theorem q_beginW {M : MD} {d mc ms n : Nat} {a : Bool} {h : PH} {L : List (Option PV)} {As : List PV} {post : Option PV → Nat → PH → Prop} (hL : entL M As = L) (kk : QW M d mc ms (FR a mc ms post) 0 0 0 L [] a n h) : Ctr M d mc ms a As n h post := by subst hL; exact kk
theorem w_addJob {d : Nat} {h : PH} {σ : CS} {f : Nat → Int} {f0 t0 r0 u0 w0 : Int} (hd : 21 ≤ d) (hI : BMI 169 h 0 σ) (hO : BOk σ) (hA : At1 169 h 168 (cJ 1 f)) (hi1 : IR f0) (hi2 : IR t0) (hi3 : IR r0) (hi4 : IR u0) (hi5 : IR w0) : Ctr mL_addJob d 1 6 false [vR 0, vI f0, vI t0, vI r0, vI u0, vI w0, vR 168] 169 h (WPost h (MCI mX6_addJob [vI f0, vI t0, vI r0, vI u0, vI w0] σ)) := by
  obtain ⟨⟨S, P, kn, bs⟩, sv, x, tx, tl⟩ := σ
  refine q_beginW (L := [some (vR 0), some (vI f0), some (vI t0), some (vI r0), some (vI u0), some (vI w0), some (vR 168), none]) rfl ?_
  refine q_aload (pc' := 2) (dk_at dkL_addJob 0 rfl) rfl rfl ?_
  refine q_iconst (pc' := 3) (dk_at dkL_addJob 1 rfl) rfl ?_
  refine q_aload_n (pc' := 4) (dk_at dkL_addJob 2 rfl) rfl rfl ?_
  refine q_iload_n (pc' := 5) (dk_at dkL_addJob 3 rfl) rfl rfl ?_
  refine q_iload_n (pc' := 6) (dk_at dkL_addJob 4 rfl) rfl rfl ?_
  refine q_iload_n (pc' := 7) (dk_at dkL_addJob 5 rfl) rfl rfl ?_
  refine q_iload (pc' := 9) (dk_at dkL_addJob 6 rfl) rfl rfl ?_
  refine q_iload (pc' := 11) (dk_at dkL_addJob 7 rfl) rfl rfl ?_
  refine q_callVX (pc' := 14) (j := 7) (As := [vI f0, vI t0, vI r0, vI u0, vI w0]) (S := [vI 0, vR 168]) (L' := [none, none, none, none, none, none, none, none]) cv_RL_7 (dk_at dkL_addJob 8 rfl) hI.1.obj rfl (k_BM_addJob (d := 20) (Nat.le_refl _) hI hO hi1 hi2 hi3 hi4 hi5) (by omega) (by decide) (by decide) rfl (Nat.le_of_ble_eq_true rfl) rfl (Nat.le_of_ble_eq_true rfl) rfl (by decide) (fun B q hq => absurd hq (List.not_mem_nil)) ?_ ?_
  · rintro E h' ⟨rfl, ⟨rfl, n1⟩ | ⟨rfl, c1, n2⟩⟩
    · refine ⟨19, 2, hdmL_addJob_13, Or.inr ⟨(dk_at dkL_addJob 12 rfl), rfl⟩, ?_⟩
      refine q_iconst (pc' := 22) (dk_at dkL_addJob 13 rfl) rfl ?_
      refine q_iret rfl (dk_at dkL_addJob 14 rfl) (by decide) (by decide) ⟨rfl, 1, 0, ((S, P, kn, bs), sv, x, tx, tl), rfl, by decide, ?_, hI, hO, ⟨f, hA, fun z => absurd z (by decide)⟩, fun _ _ _ => rfl⟩
      intro d2 h2 th hd2 hM
      refine (k_M_addJob  hd2 hM hO hi1 hi2 hi3 hi4 hi5 ).mono (fun v' h3 hp => ?_)
      rcases hp with ⟨d1, d2, e, m, g⟩ | ⟨m1, m, g⟩ | ⟨m1, m2, m, g⟩
      · exfalso; first | contradiction | omega
      · exact ⟨fun z => absurd z (by decide), m, g⟩
      · exfalso; first | contradiction | omega
    · refine ⟨23, 2, hdmL_addJob_15, Or.inr ⟨(dk_at dkL_addJob 15 rfl), rfl⟩, ?_⟩
      refine q_iconst (pc' := 26) (dk_at dkL_addJob 16 rfl) rfl ?_
      refine q_iret rfl (dk_at dkL_addJob 17 rfl) (by decide) (by decide) ⟨rfl, 2, 0, ((S, P, kn, bs), sv, x, tx, tl), rfl, by decide, ?_, hI, hO, ⟨f, hA, fun z => absurd z (by decide)⟩, fun _ _ _ => rfl⟩
      intro d2 h2 th hd2 hM
      refine (k_M_addJob  hd2 hM hO hi1 hi2 hi3 hi4 hi5 ).mono (fun v' h3 hp => ?_)
      rcases hp with ⟨d1, d2, e, m, g⟩ | ⟨m1, m, g⟩ | ⟨m1, m2, m, g⟩
      · exfalso; first | contradiction | omega
      · exfalso; first | contradiction | omega
      · exact ⟨fun z => absurd z (by decide), m, g⟩
  · rintro r h' ⟨v, rfl, c1, c2, hv, hB, hF⟩
    have hA' : At1 169 h' 168 (cJ 1 f) := hA.fr (hF 168 (by omega))
    refine q_i2ln (pc' := 15) (dk_at dkL_addJob 9 rfl) rfl ?_
    refine r_last (pc' := 16) (dk_at dkL_addJob 10 rfl) hA' 0 rfl (by decide) (by decide) rfl ?_
    intro h4 e4
    refine q_goto (tgt := 27) (dk_at dkL_addJob 11 rfl) (by decide) ?_
    refine q_iconst (pc' := 28) (dk_at dkL_addJob 18 rfl) rfl ?_
    refine q_iret rfl (dk_at dkL_addJob 19 rfl) (by decide) (by decide) ⟨rfl, 0, (nrI v), ((S.add f0 t0 r0 u0 w0, P, 0, bs), pshN sv, (pshX sv x (S, P, kn, bs)), tx, tl), rfl, by decide, ?_, hB.frm (fr1 e4) (by omega), hO.psh hO.1 ⟨hO.1.1.add c1 c2, hO.1.2.1.up, Bst0⟩, ⟨upz f 0 (nrI v), hA'.put e4, fun _ => upz_eq _ _ _⟩, fun k k1 k2 => by rw [e4, hp_ne (by omega)]; exact hF k (by omega)⟩
    intro d2 h2 th hd2 hM
    refine (k_M_addJob  hd2 hM hO hi1 hi2 hi3 hi4 hi5 ).mono (fun v' h3 hp => ?_)
    rcases hp with ⟨d1, d2, e, m, g⟩ | ⟨m1, m, g⟩ | ⟨m1, m2, m, g⟩
    · exact ⟨fun _ => by rw [e, hv], m, g⟩
    · exfalso; first | contradiction | omega
    · exfalso; first | contradiction | omega
theorem w_removeJob {d : Nat} {h : PH} {σ : CS} {f : Nat → Int} {j0 : Int} (hd : 21 ≤ d) (hI : BMI 169 h 0 σ) (hO : BOk σ) (hA : At1 169 h 168 (cJ 1 f)) (hi1 : IR j0) : Ctr mL_removeJob d 1 6 false [vR 0, vI j0, vR 168] 169 h (WPost h (MCI mX6_removeJob [vI j0] σ)) := by
  obtain ⟨⟨S, P, kn, bs⟩, sv, x, tx, tl⟩ := σ
  refine q_beginW (L := [some (vR 0), some (vI j0), some (vR 168), none]) rfl ?_
  refine q_aload_n (pc' := 1) (dk_at dkL_removeJob 0 rfl) rfl rfl ?_
  refine q_iconst (pc' := 2) (dk_at dkL_removeJob 1 rfl) rfl ?_
  refine q_aload_n (pc' := 3) (dk_at dkL_removeJob 2 rfl) rfl rfl ?_
  refine q_iload_n (pc' := 4) (dk_at dkL_removeJob 3 rfl) rfl rfl ?_
  refine q_callVX (pc' := 7) (j := 3) (As := [vI j0]) (S := [vI 0, vR 168]) (L' := [none, none, none, none]) cv_RL_17 (dk_at dkL_removeJob 4 rfl) hI.1.obj rfl (k_BM_removeJob (d := 20) (Nat.le_refl _) hI hO hi1) (by omega) (by decide) (by decide) rfl (Nat.le_of_ble_eq_true rfl) rfl (Nat.le_of_ble_eq_true rfl) rfl (by decide) (fun B q hq => absurd hq (List.not_mem_nil)) ?_ ?_
  · rintro E h' ⟨rfl, rfl, n1⟩
    refine ⟨12, 1, hdmL_removeJob_21, Or.inl ⟨3, rfl, (dk_at dkL_removeJob 8 rfl), rfl⟩, ?_⟩
    refine q_iconst (pc' := 14) (dk_at dkL_removeJob 9 rfl) rfl ?_
    refine q_iret rfl (dk_at dkL_removeJob 10 rfl) (by decide) (by decide) ⟨rfl, 1, 0, ((S, P, kn, bs), sv, x, tx, tl), rfl, by decide, ?_, hI, hO, ⟨f, hA, fun z => absurd z (by decide)⟩, fun _ _ _ => rfl⟩
    intro d2 h2 th hd2 hM
    refine (k_M_removeJob  hd2 hM hO hi1 ).mono (fun v' h3 hp => ?_)
    rcases hp with ⟨d1, e, m, g⟩ | ⟨m1, m, g⟩
    · exfalso; first | contradiction | omega
    · exact ⟨fun z => absurd z (by decide), m, g⟩
  · rintro r h' ⟨v, rfl, c1, hv, hB, hF⟩
    have hjn : j0.toNat < S.cnt := by have := c1.1; have := c1.2; omega
    have hdp : PlOk (S.cnt - 1) (P.drop j0) := by
      have := (hO.1.2.1 : PlOk S.cnt P).drop hjn
      rw [Int.toNat_of_nonneg c1.1] at this
      exact this
    have hA' : At1 169 h' 168 (cJ 1 f) := hA.fr (hF 168 (by omega))
    refine q_i2ln (pc' := 8) (dk_at dkL_removeJob 5 rfl) rfl ?_
    refine r_last (pc' := 9) (dk_at dkL_removeJob 6 rfl) hA' 0 rfl (by decide) (by decide) rfl ?_
    intro h4 e4
    refine q_goto (tgt := 15) (dk_at dkL_removeJob 7 rfl) (by decide) ?_
    refine q_iconst (pc' := 16) (dk_at dkL_removeJob 11 rfl) rfl ?_
    refine q_iret rfl (dk_at dkL_removeJob 12 rfl) (by decide) (by decide) ⟨rfl, 0, (nrI v), ((S.drop j0.toNat, P.drop j0, 0, bs), pshN sv, (pshX sv x (S, P, kn, bs)), tx, tl), rfl, by decide, ?_, hB.frm (fr1 e4) (by omega), hO.psh hO.1 ⟨hO.1.1.drop hjn, hdp, Bst0⟩, ⟨upz f 0 (nrI v), hA'.put e4, fun _ => upz_eq _ _ _⟩, fun k k1 k2 => by rw [e4, hp_ne (by omega)]; exact hF k (by omega)⟩
    intro d2 h2 th hd2 hM
    refine (k_M_removeJob  hd2 hM hO hi1 ).mono (fun v' h3 hp => ?_)
    rcases hp with ⟨d1, e, m, g⟩ | ⟨m1, m, g⟩
    · exact ⟨fun _ => by rw [e, hv], m, g⟩
    · exfalso; first | contradiction | omega
theorem w_setJob {d : Nat} {h : PH} {σ : CS} {f : Nat → Int} {j0 w0 v0 : Int} (hd : 21 ≤ d) (hI : BMI 169 h 0 σ) (hO : BOk σ) (hA : At1 169 h 168 (cJ 1 f)) (hi1 : IR j0) (hi2 : IR w0) (hi3 : IR v0) : Ctr mL_setJob d 1 6 false [vR 0, vI j0, vI w0, vI v0, vR 168] 169 h (WPost h (MCI mX6_setJob [vI j0, vI w0, vI v0] σ)) := by
  obtain ⟨⟨S, P, kn, bs⟩, sv, x, tx, tl⟩ := σ
  refine q_beginW (L := [some (vR 0), some (vI j0), some (vI w0), some (vI v0), some (vR 168), none]) rfl ?_
  refine q_aload (pc' := 2) (dk_at dkL_setJob 0 rfl) rfl rfl ?_
  refine q_iconst (pc' := 3) (dk_at dkL_setJob 1 rfl) rfl ?_
  refine q_aload_n (pc' := 4) (dk_at dkL_setJob 2 rfl) rfl rfl ?_
  refine q_iload_n (pc' := 5) (dk_at dkL_setJob 3 rfl) rfl rfl ?_
  refine q_iload_n (pc' := 6) (dk_at dkL_setJob 4 rfl) rfl rfl ?_
  refine q_iload_n (pc' := 7) (dk_at dkL_setJob 5 rfl) rfl rfl ?_
  refine q_callVX (pc' := 10) (j := 5) (As := [vI j0, vI w0, vI v0]) (S := [vI 0, vR 168]) (L' := [none, none, none, none, none, none]) cv_RL_23 (dk_at dkL_setJob 6 rfl) hI.1.obj rfl (k_BM_setJob (d := 20) (Nat.le_refl _) hI hO hi1 hi2 hi3) (by omega) (by decide) (by decide) rfl (Nat.le_of_ble_eq_true rfl) rfl (Nat.le_of_ble_eq_true rfl) rfl (by decide) (fun B q hq => absurd hq (List.not_mem_nil)) ?_ ?_
  · rintro E h' ⟨rfl, ⟨rfl, n1⟩ | ⟨rfl, c1, n2⟩⟩
    · refine ⟨15, 2, hdmL_setJob_21, Or.inr ⟨(dk_at dkL_setJob 10 rfl), rfl⟩, ?_⟩
      refine q_iconst (pc' := 18) (dk_at dkL_setJob 11 rfl) rfl ?_
      refine q_iret rfl (dk_at dkL_setJob 12 rfl) (by decide) (by decide) ⟨rfl, 1, 0, ((S, P, kn, bs), sv, x, tx, tl), rfl, by decide, ?_, hI, hO, ⟨f, hA, fun z => absurd z (by decide)⟩, fun _ _ _ => rfl⟩
      intro d2 h2 th hd2 hM
      refine (k_M_setJob  hd2 hM hO hi1 hi2 hi3 ).mono (fun v' h3 hp => ?_)
      rcases hp with ⟨d1, d2, e, m, g⟩ | ⟨m1, m, g⟩ | ⟨m1, m2, m, g⟩
      · exfalso; first | contradiction | omega
      · exact ⟨fun z => absurd z (by decide), m, g⟩
      · exfalso; first | contradiction | omega
    · refine ⟨19, 2, hdmL_setJob_13, Or.inr ⟨(dk_at dkL_setJob 13 rfl), rfl⟩, ?_⟩
      refine q_iconst (pc' := 22) (dk_at dkL_setJob 14 rfl) rfl ?_
      refine q_iret rfl (dk_at dkL_setJob 15 rfl) (by decide) (by decide) ⟨rfl, 2, 0, ((S, P, kn, bs), sv, x, tx, tl), rfl, by decide, ?_, hI, hO, ⟨f, hA, fun z => absurd z (by decide)⟩, fun _ _ _ => rfl⟩
      intro d2 h2 th hd2 hM
      refine (k_M_setJob  hd2 hM hO hi1 hi2 hi3 ).mono (fun v' h3 hp => ?_)
      rcases hp with ⟨d1, d2, e, m, g⟩ | ⟨m1, m, g⟩ | ⟨m1, m2, m, g⟩
      · exfalso; first | contradiction | omega
      · exfalso; first | contradiction | omega
      · exact ⟨fun z => absurd z (by decide), m, g⟩
  · rintro r h' ⟨v, rfl, c1, c2, hv, hB, hF⟩
    have hpp : PlOk S.cnt (if w0 = 0 ∧ S.V 0 j0.toNat ≠ v0 then P.none else P) := by
      split
      · exact PlOk.emp hO.1.2.1.2.2.1
      · exact hO.1.2.1
    have hA' : At1 169 h' 168 (cJ 1 f) := hA.fr (hF 168 (by omega))
    refine q_i2ln (pc' := 11) (dk_at dkL_setJob 7 rfl) rfl ?_
    refine r_last (pc' := 12) (dk_at dkL_setJob 8 rfl) hA' 0 rfl (by decide) (by decide) rfl ?_
    intro h4 e4
    refine q_goto (tgt := 23) (dk_at dkL_setJob 9 rfl) (by decide) ?_
    refine q_iconst (pc' := 24) (dk_at dkL_setJob 16 rfl) rfl ?_
    refine q_iret rfl (dk_at dkL_setJob 17 rfl) (by decide) (by decide) ⟨rfl, 0, (nrI v), ((S.setV w0.toNat j0.toNat v0, (if w0 = 0 ∧ S.V 0 j0.toNat ≠ v0 then P.none else P), 0, bs), pshN sv, (pshX sv x (S, P, kn, bs)), tx, tl), rfl, by decide, ?_, hB.frm (fr1 e4) (by omega), hO.psh hO.1 ⟨hO.1.1.setV c2, hpp, Bst0⟩, ⟨upz f 0 (nrI v), hA'.put e4, fun _ => upz_eq _ _ _⟩, fun k k1 k2 => by rw [e4, hp_ne (by omega)]; exact hF k (by omega)⟩
    intro d2 h2 th hd2 hM
    refine (k_M_setJob  hd2 hM hO hi1 hi2 hi3 ).mono (fun v' h3 hp => ?_)
    rcases hp with ⟨d1, d2, e, m, g⟩ | ⟨m1, m, g⟩ | ⟨m1, m2, m, g⟩
    · exact ⟨fun _ => by rw [e, hv], m, g⟩
    · exfalso; first | contradiction | omega
    · exfalso; first | contradiction | omega
theorem w_job {d : Nat} {h : PH} {σ : CS} {f : Nat → Int} {j0 w0 : Int} (hd : 21 ≤ d) (hI : BMI 169 h 0 σ) (hO : BOk σ) (hA : At1 169 h 168 (cJ 1 f)) (hi1 : IR j0) (hi2 : IR w0) : Ctr mL_job d 1 6 false [vR 0, vI j0, vI w0, vR 168] 169 h (WPost h (MCI mX6_job [vI j0, vI w0] σ)) := by
  obtain ⟨⟨S, P, kn, bs⟩, sv, x, tx, tl⟩ := σ
  refine q_beginW (L := [some (vR 0), some (vI j0), some (vI w0), some (vR 168), none]) rfl ?_
  refine q_aload_n (pc' := 1) (dk_at dkL_job 0 rfl) rfl rfl ?_
  refine q_iconst (pc' := 2) (dk_at dkL_job 1 rfl) rfl ?_
  refine q_aload_n (pc' := 3) (dk_at dkL_job 2 rfl) rfl rfl ?_
  refine q_iload_n (pc' := 4) (dk_at dkL_job 3 rfl) rfl rfl ?_
  refine q_iload_n (pc' := 5) (dk_at dkL_job 4 rfl) rfl rfl ?_
  refine q_callVX (pc' := 8) (j := 4) (As := [vI j0, vI w0]) (S := [vI 0, vR 168]) (L' := [none, none, none, none, none]) cv_RL_27 (dk_at dkL_job 5 rfl) hI.1.obj rfl (k_BM_job (d := 20) (Nat.le_refl _) hI hO hi1 hi2) (by omega) (by decide) (by decide) rfl (Nat.le_of_ble_eq_true rfl) rfl (Nat.le_of_ble_eq_true rfl) rfl (by decide) (fun B q hq => absurd hq (List.not_mem_nil)) ?_ ?_
  · rintro E h' ⟨rfl, ⟨rfl, n1⟩ | ⟨rfl, c1, n2⟩⟩
    · refine ⟨13, 2, hdmL_job_21, Or.inr ⟨(dk_at dkL_job 9 rfl), rfl⟩, ?_⟩
      refine q_iconst (pc' := 16) (dk_at dkL_job 10 rfl) rfl ?_
      refine q_iret rfl (dk_at dkL_job 11 rfl) (by decide) (by decide) ⟨rfl, 1, 0, ((S, P, kn, bs), sv, x, tx, tl), rfl, by decide, ?_, hI, hO, ⟨f, hA, fun z => absurd z (by decide)⟩, fun _ _ _ => rfl⟩
      intro d2 h2 th hd2 hM
      refine (k_M_job  hd2 hM hO hi1 hi2 ).mono (fun v' h3 hp => ?_)
      rcases hp with ⟨d1, d2, e, m, g⟩ | ⟨m1, m, g⟩ | ⟨m1, m2, m, g⟩
      · exfalso; first | contradiction | omega
      · exact ⟨fun z => absurd z (by decide), m, g⟩
      · exfalso; first | contradiction | omega
    · refine ⟨17, 2, hdmL_job_13, Or.inr ⟨(dk_at dkL_job 12 rfl), rfl⟩, ?_⟩
      refine q_iconst (pc' := 20) (dk_at dkL_job 13 rfl) rfl ?_
      refine q_iret rfl (dk_at dkL_job 14 rfl) (by decide) (by decide) ⟨rfl, 2, 0, ((S, P, kn, bs), sv, x, tx, tl), rfl, by decide, ?_, hI, hO, ⟨f, hA, fun z => absurd z (by decide)⟩, fun _ _ _ => rfl⟩
      intro d2 h2 th hd2 hM
      refine (k_M_job  hd2 hM hO hi1 hi2 ).mono (fun v' h3 hp => ?_)
      rcases hp with ⟨d1, d2, e, m, g⟩ | ⟨m1, m, g⟩ | ⟨m1, m2, m, g⟩
      · exfalso; first | contradiction | omega
      · exfalso; first | contradiction | omega
      · exact ⟨fun z => absurd z (by decide), m, g⟩
  · rintro r h' ⟨v, rfl, c1, c2, hv, he⟩
    have hB : BMI 169 h' 0 ((S, P, kn, bs), sv, x, tx, tl) := by rw [he]; exact hI
    have hF : Fr h h' 0 149 := by rw [he]; exact Fr.rf
    have hA' : At1 169 h' 168 (cJ 1 f) := hA.fr (hF 168 (by omega))
    refine q_i2ln (pc' := 9) (dk_at dkL_job 6 rfl) rfl ?_
    refine r_last (pc' := 10) (dk_at dkL_job 7 rfl) hA' 0 rfl (by decide) (by decide) rfl ?_
    intro h4 e4
    refine q_goto (tgt := 21) (dk_at dkL_job 8 rfl) (by decide) ?_
    refine q_iconst (pc' := 22) (dk_at dkL_job 15 rfl) rfl ?_
    refine q_iret rfl (dk_at dkL_job 16 rfl) (by decide) (by decide) ⟨rfl, 0, (nrI v), ((S, P, kn, bs), sv, x, tx, tl), rfl, by decide, ?_, hB.frm (fr1 e4) (by omega), hO, ⟨upz f 0 (nrI v), hA'.put e4, fun _ => upz_eq _ _ _⟩, fun k k1 k2 => by rw [e4, hp_ne (by omega)]; exact hF k (by omega)⟩
    intro d2 h2 th hd2 hM
    refine (k_M_job  hd2 hM hO hi1 hi2 ).mono (fun v' h3 hp => ?_)
    rcases hp with ⟨d1, d2, e, m, g⟩ | ⟨m1, m, g⟩ | ⟨m1, m2, m, g⟩
    · exact ⟨fun _ => by rw [e, hv], m, g⟩
    · exfalso; first | contradiction | omega
    · exfalso; first | contradiction | omega
theorem w_setSetup {d : Nat} {h : PH} {σ : CS} {f : Nat → Int} {f0 t0 v0 : Int} (hd : 21 ≤ d) (hI : BMI 169 h 0 σ) (hO : BOk σ) (hA : At1 169 h 168 (cJ 1 f)) (hi1 : IR f0) (hi2 : IR t0) (hi3 : IR v0) : Ctr mL_setSetup d 1 6 false [vR 0, vI f0, vI t0, vI v0, vR 168] 169 h (WPost h (MCI mX6_setSetup [vI f0, vI t0, vI v0] σ)) := by
  obtain ⟨⟨S, P, kn, bs⟩, sv, x, tx, tl⟩ := σ
  refine q_beginW (L := [some (vR 0), some (vI f0), some (vI t0), some (vI v0), some (vR 168), none]) rfl ?_
  refine q_aload (pc' := 2) (dk_at dkL_setSetup 0 rfl) rfl rfl ?_
  refine q_iconst (pc' := 3) (dk_at dkL_setSetup 1 rfl) rfl ?_
  refine q_aload_n (pc' := 4) (dk_at dkL_setSetup 2 rfl) rfl rfl ?_
  refine q_iload_n (pc' := 5) (dk_at dkL_setSetup 3 rfl) rfl rfl ?_
  refine q_iload_n (pc' := 6) (dk_at dkL_setSetup 4 rfl) rfl rfl ?_
  refine q_iload_n (pc' := 7) (dk_at dkL_setSetup 5 rfl) rfl rfl ?_
  refine q_callVX (pc' := 10) (j := 5) (As := [vI f0, vI t0, vI v0]) (S := [vI 0, vR 168]) (L' := [none, none, none, none, none, none]) cv_RL_31 (dk_at dkL_setSetup 6 rfl) hI.1.obj rfl (k_BM_setSetup (d := 20) (Nat.le_refl _) hI hO hi1 hi2 hi3) (by omega) (by decide) (by decide) rfl (Nat.le_of_ble_eq_true rfl) rfl (Nat.le_of_ble_eq_true rfl) rfl (by decide) (fun B q hq => absurd hq (List.not_mem_nil)) ?_ ?_
  · rintro E h' ⟨rfl, ⟨rfl, n1⟩ | ⟨rfl, c1, n2⟩⟩
    · refine ⟨15, 2, hdmL_setSetup_21, Or.inr ⟨(dk_at dkL_setSetup 10 rfl), rfl⟩, ?_⟩
      refine q_iconst (pc' := 18) (dk_at dkL_setSetup 11 rfl) rfl ?_
      refine q_iret rfl (dk_at dkL_setSetup 12 rfl) (by decide) (by decide) ⟨rfl, 1, 0, ((S, P, kn, bs), sv, x, tx, tl), rfl, by decide, ?_, hI, hO, ⟨f, hA, fun z => absurd z (by decide)⟩, fun _ _ _ => rfl⟩
      intro d2 h2 th hd2 hM
      refine (k_M_setSetup  hd2 hM hO hi1 hi2 hi3 ).mono (fun v' h3 hp => ?_)
      rcases hp with ⟨d1, d2, e, m, g⟩ | ⟨m1, m, g⟩ | ⟨m1, m2, m, g⟩
      · exfalso; first | contradiction | omega
      · exact ⟨fun z => absurd z (by decide), m, g⟩
      · exfalso; first | contradiction | omega
    · refine ⟨19, 2, hdmL_setSetup_13, Or.inr ⟨(dk_at dkL_setSetup 13 rfl), rfl⟩, ?_⟩
      refine q_iconst (pc' := 22) (dk_at dkL_setSetup 14 rfl) rfl ?_
      refine q_iret rfl (dk_at dkL_setSetup 15 rfl) (by decide) (by decide) ⟨rfl, 2, 0, ((S, P, kn, bs), sv, x, tx, tl), rfl, by decide, ?_, hI, hO, ⟨f, hA, fun z => absurd z (by decide)⟩, fun _ _ _ => rfl⟩
      intro d2 h2 th hd2 hM
      refine (k_M_setSetup  hd2 hM hO hi1 hi2 hi3 ).mono (fun v' h3 hp => ?_)
      rcases hp with ⟨d1, d2, e, m, g⟩ | ⟨m1, m, g⟩ | ⟨m1, m2, m, g⟩
      · exfalso; first | contradiction | omega
      · exfalso; first | contradiction | omega
      · exact ⟨fun z => absurd z (by decide), m, g⟩
  · rintro r h' ⟨v, rfl, c1, c2, hv, hB, hF⟩
    have hA' : At1 169 h' 168 (cJ 1 f) := hA.fr (hF 168 (by omega))
    refine q_i2ln (pc' := 11) (dk_at dkL_setSetup 7 rfl) rfl ?_
    refine r_last (pc' := 12) (dk_at dkL_setSetup 8 rfl) hA' 0 rfl (by decide) (by decide) rfl ?_
    intro h4 e4
    refine q_goto (tgt := 23) (dk_at dkL_setSetup 9 rfl) (by decide) ?_
    refine q_iconst (pc' := 24) (dk_at dkL_setSetup 16 rfl) rfl ?_
    refine q_iret rfl (dk_at dkL_setSetup 17 rfl) (by decide) (by decide) ⟨rfl, 0, (nrI v), ((S.setT (f0 + 1).toNat t0.toNat v0, P, 0, bs), pshN sv, (pshX sv x (S, P, kn, bs)), tx, tl), rfl, by decide, ?_, hB.frm (fr1 e4) (by omega), hO.psh hO.1 ⟨hO.1.1.setT c2, hO.1.2.1, Bst0⟩, ⟨upz f 0 (nrI v), hA'.put e4, fun _ => upz_eq _ _ _⟩, fun k k1 k2 => by rw [e4, hp_ne (by omega)]; exact hF k (by omega)⟩
    intro d2 h2 th hd2 hM
    refine (k_M_setSetup  hd2 hM hO hi1 hi2 hi3 ).mono (fun v' h3 hp => ?_)
    rcases hp with ⟨d1, d2, e, m, g⟩ | ⟨m1, m, g⟩ | ⟨m1, m2, m, g⟩
    · exact ⟨fun _ => by rw [e, hv], m, g⟩
    · exfalso; first | contradiction | omega
    · exfalso; first | contradiction | omega
theorem w_setObjective {d : Nat} {h : PH} {σ : CS} {f : Nat → Int} {b0 : Int} (hd : 21 ≤ d) (hI : BMI 169 h 0 σ) (hO : BOk σ) (hA : At1 169 h 168 (cJ 1 f)) (hi1 : IR b0) : Ctr mL_setObjective d 1 6 false [vR 0, vI b0, vR 168] 169 h (WPost h (MCI mX6_setObjective [vI b0] σ)) := by
  obtain ⟨⟨S, P, kn, bs⟩, sv, x, tx, tl⟩ := σ
  refine q_beginW (L := [some (vR 0), some (vI b0), some (vR 168), none]) rfl ?_
  refine q_aload_n (pc' := 1) (dk_at dkL_setObjective 0 rfl) rfl rfl ?_
  refine q_iconst (pc' := 2) (dk_at dkL_setObjective 1 rfl) rfl ?_
  refine q_aload_n (pc' := 3) (dk_at dkL_setObjective 2 rfl) rfl rfl ?_
  refine q_iload_n (pc' := 4) (dk_at dkL_setObjective 3 rfl) rfl rfl ?_
  refine q_callVX (pc' := 7) (j := 3) (As := [vI b0]) (S := [vI 0, vR 168]) (L' := [none, none, none, none]) cv_RL_34 (dk_at dkL_setObjective 4 rfl) hI.1.obj rfl (k_BM_setObjective (d := 20) (Nat.le_refl _) hI hO hi1) (by omega) (by decide) (by decide) rfl (Nat.le_of_ble_eq_true rfl) rfl (Nat.le_of_ble_eq_true rfl) rfl (by decide) (fun B q hq => absurd hq (List.not_mem_nil)) ?_ ?_
  · rintro E h' ⟨rfl, rfl, n1⟩
    refine ⟨12, 1, hdmL_setObjective_13, Or.inl ⟨3, rfl, (dk_at dkL_setObjective 8 rfl), rfl⟩, ?_⟩
    refine q_iconst (pc' := 14) (dk_at dkL_setObjective 9 rfl) rfl ?_
    refine q_iret rfl (dk_at dkL_setObjective 10 rfl) (by decide) (by decide) ⟨rfl, 1, 0, ((S, P, kn, bs), sv, x, tx, tl), rfl, by decide, ?_, hI, hO, ⟨f, hA, fun z => absurd z (by decide)⟩, fun _ _ _ => rfl⟩
    intro d2 h2 th hd2 hM
    refine (k_M_setObjective  hd2 hM hO hi1 ).mono (fun v' h3 hp => ?_)
    rcases hp with ⟨d1, e, m, g⟩ | ⟨m1, m, g⟩
    · exfalso; first | contradiction | omega
    · exact ⟨fun z => absurd z (by decide), m, g⟩
  · rintro r h' ⟨v, rfl, c1, hv, hB, hF⟩
    have hA' : At1 169 h' 168 (cJ 1 f) := hA.fr (hF 168 (by omega))
    refine q_i2ln (pc' := 8) (dk_at dkL_setObjective 5 rfl) rfl ?_
    refine r_last (pc' := 9) (dk_at dkL_setObjective 6 rfl) hA' 0 rfl (by decide) (by decide) rfl ?_
    intro h4 e4
    refine q_goto (tgt := 15) (dk_at dkL_setObjective 7 rfl) (by decide) ?_
    refine q_iconst (pc' := 16) (dk_at dkL_setObjective 11 rfl) rfl ?_
    refine q_iret rfl (dk_at dkL_setObjective 12 rfl) (by decide) (by decide) ⟨rfl, 0, (nrI v), ((S.setO b0, P, 0, bs), pshN sv, (pshX sv x (S, P, kn, bs)), tx, tl), rfl, by decide, ?_, hB.frm (fr1 e4) (by omega), hO.psh hO.1 ⟨hO.1.1.setO c1, hO.1.2.1, Bst0⟩, ⟨upz f 0 (nrI v), hA'.put e4, fun _ => upz_eq _ _ _⟩, fun k k1 k2 => by rw [e4, hp_ne (by omega)]; exact hF k (by omega)⟩
    intro d2 h2 th hd2 hM
    refine (k_M_setObjective  hd2 hM hO hi1 ).mono (fun v' h3 hp => ?_)
    rcases hp with ⟨d1, e, m, g⟩ | ⟨m1, m, g⟩
    · exact ⟨fun _ => by rw [e, hv], m, g⟩
    · exfalso; first | contradiction | omega
theorem w_append {d : Nat} {h : PH} {σ : CS} {f : Nat → Int} {v0 : Int} (hd : 21 ≤ d) (hI : BMI 169 h 0 σ) (hO : BOk σ) (hA : At1 169 h 168 (cJ 1 f)) (hi1 : IR v0) : Ctr mL_append d 1 6 false [vR 0, vI v0, vR 168] 169 h (WPost h (MCI mX6_append [vI v0] σ)) := by
  obtain ⟨⟨S, P, kn, bs⟩, sv, x, tx, tl⟩ := σ
  refine q_beginW (L := [some (vR 0), some (vI v0), some (vR 168), none]) rfl ?_
  refine q_aload_n (pc' := 1) (dk_at dkL_append 0 rfl) rfl rfl ?_
  refine q_iconst (pc' := 2) (dk_at dkL_append 1 rfl) rfl ?_
  refine q_aload_n (pc' := 3) (dk_at dkL_append 2 rfl) rfl rfl ?_
  refine q_iload_n (pc' := 4) (dk_at dkL_append 3 rfl) rfl rfl ?_
  refine q_callVX (pc' := 7) (j := 3) (As := [vI v0]) (S := [vI 0, vR 168]) (L' := [none, none, none, none]) cv_RL_37 (dk_at dkL_append 4 rfl) hI.1.obj rfl (k_BM_append (d := 20) (Nat.le_refl _) hI hO hi1) (by omega) (by decide) (by decide) rfl (Nat.le_of_ble_eq_true rfl) rfl (Nat.le_of_ble_eq_true rfl) rfl (by decide) (fun B q hq => absurd hq (List.not_mem_nil)) ?_ ?_
  · rintro E h' ⟨rfl, ⟨rfl, n1⟩ | ⟨rfl, c1, n2⟩⟩
    · refine ⟨12, 1, hdmL_append_13, Or.inl ⟨3, rfl, (dk_at dkL_append 8 rfl), rfl⟩, ?_⟩
      refine q_iconst (pc' := 14) (dk_at dkL_append 9 rfl) rfl ?_
      refine q_iret rfl (dk_at dkL_append 10 rfl) (by decide) (by decide) ⟨rfl, 1, 0, ((S, P, kn, bs), sv, x, tx, tl), rfl, by decide, ?_, hI, hO, ⟨f, hA, fun z => absurd z (by decide)⟩, fun _ _ _ => rfl⟩
      intro d2 h2 th hd2 hM
      refine (k_M_append  hd2 hM hO hi1 ).mono (fun v' h3 hp => ?_)
      rcases hp with ⟨d1, d2, e, m, g⟩ | ⟨m1, m, g⟩ | ⟨m1, m2, m, g⟩
      · exfalso; first | contradiction | omega
      · exact ⟨fun z => absurd z (by decide), m, g⟩
      · exfalso; first | contradiction | omega
    · refine ⟨15, 1, hdmL_append_15, Or.inl ⟨3, rfl, (dk_at dkL_append 11 rfl), rfl⟩, ?_⟩
      refine q_iconst (pc' := 17) (dk_at dkL_append 12 rfl) rfl ?_
      refine q_iret rfl (dk_at dkL_append 13 rfl) (by decide) (by decide) ⟨rfl, 2, 0, ((S, P, kn, bs), sv, x, tx, tl), rfl, by decide, ?_, hI, hO, ⟨f, hA, fun z => absurd z (by decide)⟩, fun _ _ _ => rfl⟩
      intro d2 h2 th hd2 hM
      refine (k_M_append  hd2 hM hO hi1 ).mono (fun v' h3 hp => ?_)
      rcases hp with ⟨d1, d2, e, m, g⟩ | ⟨m1, m, g⟩ | ⟨m1, m2, m, g⟩
      · exfalso; first | contradiction | omega
      · exfalso; first | contradiction | omega
      · exact ⟨fun z => absurd z (by decide), m, g⟩
  · rintro r h' ⟨v, rfl, c1, c2, hv, hB, hF⟩
    have hA' : At1 169 h' 168 (cJ 1 f) := hA.fr (hF 168 (by omega))
    refine q_i2ln (pc' := 8) (dk_at dkL_append 5 rfl) rfl ?_
    refine r_last (pc' := 9) (dk_at dkL_append 6 rfl) hA' 0 rfl (by decide) (by decide) rfl ?_
    intro h4 e4
    refine q_goto (tgt := 18) (dk_at dkL_append 7 rfl) (by decide) ?_
    refine q_iconst (pc' := 19) (dk_at dkL_append 14 rfl) rfl ?_
    refine q_iret rfl (dk_at dkL_append 15 rfl) (by decide) (by decide) ⟨rfl, 0, (nrI v), ((S, P, kn, bs), sv, x, upz tx tl v0, tl + 1), rfl, by decide, ?_, hB.frm (fr1 e4) (by omega), hO.app c2 c1, ⟨upz f 0 (nrI v), hA'.put e4, fun _ => upz_eq _ _ _⟩, fun k k1 k2 => by rw [e4, hp_ne (by omega)]; exact hF k (by omega)⟩
    intro d2 h2 th hd2 hM
    refine (k_M_append  hd2 hM hO hi1 ).mono (fun v' h3 hp => ?_)
    rcases hp with ⟨d1, d2, e, m, g⟩ | ⟨m1, m, g⟩ | ⟨m1, m2, m, g⟩
    · exact ⟨fun _ => by rw [e, hv], m, g⟩
    · exfalso; first | contradiction | omega
    · exfalso; first | contradiction | omega
theorem w_keepRule {d : Nat} {h : PH} {σ : CS} {f : Nat → Int} {r0 : Int} (hd : 21 ≤ d) (hI : BMI 169 h 0 σ) (hO : BOk σ) (hA : At1 169 h 168 (cJ 1 f)) (hi1 : IR r0) : Ctr mL_keepRule d 1 6 false [vR 0, vI r0, vR 168] 169 h (WPost h (MCJ mX6_keepRule [vI r0] σ)) := by
  obtain ⟨⟨S, P, kn, bs⟩, sv, x, tx, tl⟩ := σ
  refine q_beginW (L := [some (vR 0), some (vI r0), some (vR 168), none]) rfl ?_
  refine q_aload_n (pc' := 1) (dk_at dkL_keepRule 0 rfl) rfl rfl ?_
  refine q_iconst (pc' := 2) (dk_at dkL_keepRule 1 rfl) rfl ?_
  refine q_aload_n (pc' := 3) (dk_at dkL_keepRule 2 rfl) rfl rfl ?_
  refine q_iload_n (pc' := 4) (dk_at dkL_keepRule 3 rfl) rfl rfl ?_
  refine q_callVX (pc' := 7) (j := 3) (As := [vI r0]) (S := [vI 0, vR 168]) (L' := [none, none, none, none]) cv_RL_40 (dk_at dkL_keepRule 4 rfl) hI.1.obj rfl (k_BM_keepRule (d := 20) (Nat.le_refl _) hI hO hi1) (by omega) (by decide) (by decide) rfl (Nat.le_of_ble_eq_true rfl) rfl (Nat.le_of_ble_eq_true rfl) rfl (by decide) (fun B q hq => absurd hq (List.not_mem_nil)) ?_ ?_
  · rintro E h' ⟨rfl, rfl, n1⟩
    refine ⟨11, 1, hdmL_keepRule_13, Or.inl ⟨3, rfl, (dk_at dkL_keepRule 7 rfl), rfl⟩, ?_⟩
    refine q_iconst (pc' := 13) (dk_at dkL_keepRule 8 rfl) rfl ?_
    refine q_iret rfl (dk_at dkL_keepRule 9 rfl) (by decide) (by decide) ⟨rfl, 1, 0, ((S, P, kn, bs), sv, x, tx, tl), rfl, by decide, ?_, hI, hO, ⟨f, hA, fun z => absurd z (by decide)⟩, fun _ _ _ => rfl⟩
    intro d2 h2 th hd2 hM
    refine (k_M_keepRule (o := fun _ => 0) (e := fun _ => 0) hd2 hM hO hi1 (fun _ => ⟨Int.le_refl _, show (0 : Int) ≤ 7 by decide⟩)).mono (fun v' h3 hp => ?_)
    rcases hp with ⟨d1, e, m, g⟩ | ⟨m1, m, g⟩
    · exfalso; first | contradiction | omega
    · exact ⟨fun z => absurd z (by decide), m, g⟩
  · rintro r h' ⟨v, rfl, c1, o0, e0, ho, hv, hB, hF⟩
    have hA' : At1 169 h' 168 (cJ 1 f) := hA.fr (hF 168 (by omega))
    refine r_last (pc' := 8) (dk_at dkL_keepRule 5 rfl) hA' 0 rfl (by decide) (by decide) rfl ?_
    intro h4 e4
    refine q_goto (tgt := 14) (dk_at dkL_keepRule 6 rfl) (by decide) ?_
    refine q_iconst (pc' := 15) (dk_at dkL_keepRule 10 rfl) rfl ?_
    refine q_iret rfl (dk_at dkL_keepRule 11 rfl) (by decide) (by decide) ⟨rfl, 0, v, ((S, rlP S r0.toNat o0 e0, kn, bs), pshN sv, (pshX sv x (S, P, kn, bs)), tx, tl), rfl, by decide, ?_, hB.frm (fr1 e4) (by omega), hO.psh hO.1 ⟨hO.1.1, rlP_ok hO.1.1.c ho, hO.1.2.2⟩, ⟨upz f 0 v, hA'.put e4, fun _ => upz_eq _ _ _⟩, fun k k1 k2 => by rw [e4, hp_ne (by omega)]; exact hF k (by omega)⟩
    intro d2 h2 th hd2 hM
    refine (k_M_keepRule (o := o0) (e := e0) hd2 hM hO hi1 ho).mono (fun v' h3 hp => ?_)
    rcases hp with ⟨d1, e, m, g⟩ | ⟨m1, m, g⟩
    · exact ⟨fun _ => by rw [e, hv], m, g⟩
    · exfalso; first | contradiction | omega
theorem w_improve {d : Nat} {h : PH} {σ : CS} {f : Nat → Int} {s0 : Int} (hd : 21 ≤ d) (hI : BMI 169 h 0 σ) (hO : BOk σ) (hA : At1 169 h 168 (cJ 1 f)) (hi1 : IR s0) : Ctr mL_improve d 1 6 false [vR 0, vI s0, vR 168] 169 h (WPost h (MCI mX6_improve [vI s0] σ)) := by
  obtain ⟨⟨S, P, kn, bs⟩, sv, x, tx, tl⟩ := σ
  refine q_beginW (L := [some (vR 0), some (vI s0), some (vR 168), none]) rfl ?_
  refine q_aload_n (pc' := 1) (dk_at dkL_improve 0 rfl) rfl rfl ?_
  refine q_iconst (pc' := 2) (dk_at dkL_improve 1 rfl) rfl ?_
  refine q_aload_n (pc' := 3) (dk_at dkL_improve 2 rfl) rfl rfl ?_
  refine q_iload_n (pc' := 4) (dk_at dkL_improve 3 rfl) rfl rfl ?_
  refine q_callVX (pc' := 7) (j := 3) (As := [vI s0]) (S := [vI 0, vR 168]) (L' := [none, none, none, none]) cv_RL_44 (dk_at dkL_improve 4 rfl) hI.1.obj rfl (k_BM_improve (d := 20) (Nat.le_refl _) hI hO hi1) (by omega) (by decide) (by decide) rfl (Nat.le_of_ble_eq_true rfl) rfl (Nat.le_of_ble_eq_true rfl) rfl (by decide) (fun B q hq => absurd hq (List.not_mem_nil)) ?_ ?_
  · rintro E h' ⟨rfl, rfl, n1⟩
    refine ⟨12, 1, hdmL_improve_13, Or.inl ⟨3, rfl, (dk_at dkL_improve 8 rfl), rfl⟩, ?_⟩
    refine q_iconst (pc' := 14) (dk_at dkL_improve 9 rfl) rfl ?_
    refine q_iret rfl (dk_at dkL_improve 10 rfl) (by decide) (by decide) ⟨rfl, 1, 0, ((S, P, kn, bs), sv, x, tx, tl), rfl, by decide, ?_, hI, hO, ⟨f, hA, fun z => absurd z (by decide)⟩, fun _ _ _ => rfl⟩
    intro d2 h2 th hd2 hM
    refine (k_M_improve (k0 := 0) (Q := P) hd2 hM hO hi1 (fun z => absurd z n1)).mono (fun v' h3 hp => ?_)
    rcases hp with ⟨d1, e, m, g⟩ | ⟨m1, m, g⟩
    · exfalso; first | contradiction | omega
    · exact ⟨fun z => absurd z (by decide), m, g⟩
  · rintro r h' ⟨v, rfl, c1, k9, Q, hv, g1, g2, g3, hB, hF⟩
    have hA' : At1 169 h' 168 (cJ 1 f) := hA.fr (hF 168 (by omega))
    refine q_i2ln (pc' := 8) (dk_at dkL_improve 5 rfl) rfl ?_
    refine r_last (pc' := 9) (dk_at dkL_improve 6 rfl) hA' 0 rfl (by decide) (by decide) rfl ?_
    intro h4 e4
    refine q_goto (tgt := 15) (dk_at dkL_improve 7 rfl) (by decide) ?_
    refine q_iconst (pc' := 16) (dk_at dkL_improve 11 rfl) rfl ?_
    refine q_iret rfl (dk_at dkL_improve 12 rfl) (by decide) (by decide) ⟨rfl, 0, (nrI v), ((S, Q, kn, bs), pshN sv, (pshX sv x (S, P, kn, bs)), tx, tl), rfl, by decide, ?_, hB.frm (fr1 e4) (by omega), hO.psh hO.1 ⟨hO.1.1, g2, hO.1.2.2⟩, ⟨upz f 0 (nrI v), hA'.put e4, fun _ => upz_eq _ _ _⟩, fun k k1 k2 => by rw [e4, hp_ne (by omega)]; exact hF k (by omega)⟩
    intro d2 h2 th hd2 hM
    refine (k_M_improve (k0 := k9) (Q := Q) hd2 hM hO hi1 (fun _ => ⟨g1, by rw [hv] at g3; exact g3⟩)).mono (fun v' h3 hp => ?_)
    rcases hp with ⟨d1, e, m, g⟩ | ⟨m1, m, g⟩
    · exact ⟨fun _ => by rw [e, hv], m, g⟩
    · exfalso; first | contradiction | omega
theorem w_batch {d : Nat} {h : PH} {σ : CS} {f : Nat → Int} {i0 w0 : Int} (hd : 21 ≤ d) (hI : BMI 169 h 0 σ) (hO : BOk σ) (hA : At1 169 h 168 (cJ 1 f)) (hi1 : IR i0) (hi2 : IR w0) : Ctr mL_batch d 1 6 false [vR 0, vI i0, vI w0, vR 168] 169 h (WPost h (MCI mX6_batch [vI i0, vI w0] σ)) := by
  obtain ⟨⟨S, P, kn, bs⟩, sv, x, tx, tl⟩ := σ
  refine q_beginW (L := [some (vR 0), some (vI i0), some (vI w0), some (vR 168), none]) rfl ?_
  refine q_aload_n (pc' := 1) (dk_at dkL_batch 0 rfl) rfl rfl ?_
  refine q_iconst (pc' := 2) (dk_at dkL_batch 1 rfl) rfl ?_
  refine q_aload_n (pc' := 3) (dk_at dkL_batch 2 rfl) rfl rfl ?_
  refine q_iload_n (pc' := 4) (dk_at dkL_batch 3 rfl) rfl rfl ?_
  refine q_iload_n (pc' := 5) (dk_at dkL_batch 4 rfl) rfl rfl ?_
  refine q_callVX (pc' := 8) (j := 4) (As := [vI i0, vI w0]) (S := [vI 0, vR 168]) (L' := [none, none, none, none, none]) cv_RL_47 (dk_at dkL_batch 5 rfl) hI.1.obj rfl (k_BM_batch (d := 20) (Nat.le_refl _) hI hO hi1 hi2) (by omega) (by decide) (by decide) rfl (Nat.le_of_ble_eq_true rfl) rfl (Nat.le_of_ble_eq_true rfl) rfl (by decide) (fun B q hq => absurd hq (List.not_mem_nil)) ?_ ?_
  · rintro E h' ⟨rfl, ⟨rfl, n1⟩ | ⟨rfl, c1, n2⟩⟩
    · refine ⟨13, 2, hdmL_batch_21, Or.inr ⟨(dk_at dkL_batch 9 rfl), rfl⟩, ?_⟩
      refine q_iconst (pc' := 16) (dk_at dkL_batch 10 rfl) rfl ?_
      refine q_iret rfl (dk_at dkL_batch 11 rfl) (by decide) (by decide) ⟨rfl, 1, 0, ((S, P, kn, bs), sv, x, tx, tl), rfl, by decide, ?_, hI, hO, ⟨f, hA, fun z => absurd z (by decide)⟩, fun _ _ _ => rfl⟩
      intro d2 h2 th hd2 hM
      refine (k_M_batch  hd2 hM hO hi1 hi2 ).mono (fun v' h3 hp => ?_)
      rcases hp with ⟨d1, d2, e, m, g⟩ | ⟨m1, m, g⟩ | ⟨m1, m2, m, g⟩
      · exfalso; first | contradiction | omega
      · exact ⟨fun z => absurd z (by decide), m, g⟩
      · exfalso; first | contradiction | omega
    · refine ⟨17, 2, hdmL_batch_13, Or.inr ⟨(dk_at dkL_batch 12 rfl), rfl⟩, ?_⟩
      refine q_iconst (pc' := 20) (dk_at dkL_batch 13 rfl) rfl ?_
      refine q_iret rfl (dk_at dkL_batch 14 rfl) (by decide) (by decide) ⟨rfl, 2, 0, ((S, P, kn, bs), sv, x, tx, tl), rfl, by decide, ?_, hI, hO, ⟨f, hA, fun z => absurd z (by decide)⟩, fun _ _ _ => rfl⟩
      intro d2 h2 th hd2 hM
      refine (k_M_batch  hd2 hM hO hi1 hi2 ).mono (fun v' h3 hp => ?_)
      rcases hp with ⟨d1, d2, e, m, g⟩ | ⟨m1, m, g⟩ | ⟨m1, m2, m, g⟩
      · exfalso; first | contradiction | omega
      · exfalso; first | contradiction | omega
      · exact ⟨fun z => absurd z (by decide), m, g⟩
  · rintro r h' ⟨v, rfl, c1, c2, hv, hB, hF⟩
    have hA' : At1 169 h' 168 (cJ 1 f) := hA.fr (hF 168 (by omega))
    refine q_i2ln (pc' := 9) (dk_at dkL_batch 6 rfl) rfl ?_
    refine r_last (pc' := 10) (dk_at dkL_batch 7 rfl) hA' 0 rfl (by decide) (by decide) rfl ?_
    intro h4 e4
    refine q_goto (tgt := 21) (dk_at dkL_batch 8 rfl) (by decide) ?_
    refine q_iconst (pc' := 22) (dk_at dkL_batch 15 rfl) rfl ?_
    refine q_iret rfl (dk_at dkL_batch 16 rfl) (by decide) (by decide) ⟨rfl, 0, (nrI v), ((S, P, kn, bs), sv, x, tx, tl), rfl, by decide, ?_, hB.frm (fr1 e4) (by omega), hO, ⟨upz f 0 (nrI v), hA'.put e4, fun _ => upz_eq _ _ _⟩, fun k k1 k2 => by rw [e4, hp_ne (by omega)]; exact hF k (by omega)⟩
    intro d2 h2 th hd2 hM
    refine (k_M_batch  hd2 hM hO hi1 hi2 ).mono (fun v' h3 hp => ?_)
    rcases hp with ⟨d1, d2, e, m, g⟩ | ⟨m1, m, g⟩ | ⟨m1, m2, m, g⟩
    · exact ⟨fun _ => by rw [e, hv], m, g⟩
    · exfalso; first | contradiction | omega
    · exfalso; first | contradiction | omega
theorem w_jobAt {d : Nat} {h : PH} {σ : CS} {f : Nat → Int} {i0 k0 : Int} (hd : 21 ≤ d) (hI : BMI 169 h 0 σ) (hO : BOk σ) (hA : At1 169 h 168 (cJ 1 f)) (hi1 : IR i0) (hi2 : IR k0) : Ctr mL_jobAt d 1 6 false [vR 0, vI i0, vI k0, vR 168] 169 h (WPost h (MCI mX6_jobAt [vI i0, vI k0] σ)) := by
  obtain ⟨⟨S, P, kn, bs⟩, sv, x, tx, tl⟩ := σ
  refine q_beginW (L := [some (vR 0), some (vI i0), some (vI k0), some (vR 168), none]) rfl ?_
  refine q_aload_n (pc' := 1) (dk_at dkL_jobAt 0 rfl) rfl rfl ?_
  refine q_iconst (pc' := 2) (dk_at dkL_jobAt 1 rfl) rfl ?_
  refine q_aload_n (pc' := 3) (dk_at dkL_jobAt 2 rfl) rfl rfl ?_
  refine q_iload_n (pc' := 4) (dk_at dkL_jobAt 3 rfl) rfl rfl ?_
  refine q_iload_n (pc' := 5) (dk_at dkL_jobAt 4 rfl) rfl rfl ?_
  refine q_callVX (pc' := 8) (j := 4) (As := [vI i0, vI k0]) (S := [vI 0, vR 168]) (L' := [none, none, none, none, none]) cv_RL_50 (dk_at dkL_jobAt 5 rfl) hI.1.obj rfl (k_BM_jobAt (d := 20) (Nat.le_refl _) hI hO hi1 hi2) (by omega) (by decide) (by decide) rfl (Nat.le_of_ble_eq_true rfl) rfl (Nat.le_of_ble_eq_true rfl) rfl (by decide) (fun B q hq => absurd hq (List.not_mem_nil)) ?_ ?_
  · rintro E h' ⟨rfl, rfl, n1⟩
    refine ⟨13, 2, hdmL_jobAt_21, Or.inr ⟨(dk_at dkL_jobAt 9 rfl), rfl⟩, ?_⟩
    refine q_iconst (pc' := 16) (dk_at dkL_jobAt 10 rfl) rfl ?_
    refine q_iret rfl (dk_at dkL_jobAt 11 rfl) (by decide) (by decide) ⟨rfl, 1, 0, ((S, P, kn, bs), sv, x, tx, tl), rfl, by decide, ?_, hI, hO, ⟨f, hA, fun z => absurd z (by decide)⟩, fun _ _ _ => rfl⟩
    intro d2 h2 th hd2 hM
    refine (k_M_jobAt  hd2 hM hO hi1 hi2 ).mono (fun v' h3 hp => ?_)
    rcases hp with ⟨d1, e, m, g⟩ | ⟨m1, m, g⟩
    · exfalso; first | contradiction | omega
    · exact ⟨fun z => absurd z (by decide), m, g⟩
  · rintro r h' ⟨v, rfl, c1a, c1b, hv, he⟩
    have hB : BMI 169 h' 0 ((S, P, kn, bs), sv, x, tx, tl) := by rw [he]; exact hI
    have hF : Fr h h' 0 149 := by rw [he]; exact Fr.rf
    have c1 := And.intro c1a c1b
    have hA' : At1 169 h' 168 (cJ 1 f) := hA.fr (hF 168 (by omega))
    refine q_i2ln (pc' := 9) (dk_at dkL_jobAt 6 rfl) rfl ?_
    refine r_last (pc' := 10) (dk_at dkL_jobAt 7 rfl) hA' 0 rfl (by decide) (by decide) rfl ?_
    intro h4 e4
    refine q_goto (tgt := 17) (dk_at dkL_jobAt 8 rfl) (by decide) ?_
    refine q_iconst (pc' := 18) (dk_at dkL_jobAt 12 rfl) rfl ?_
    refine q_iret rfl (dk_at dkL_jobAt 13 rfl) (by decide) (by decide) ⟨rfl, 0, (nrI v), ((S, P, kn, bs), sv, x, tx, tl), rfl, by decide, ?_, hB.frm (fr1 e4) (by omega), hO, ⟨upz f 0 (nrI v), hA'.put e4, fun _ => upz_eq _ _ _⟩, fun k k1 k2 => by rw [e4, hp_ne (by omega)]; exact hF k (by omega)⟩
    intro d2 h2 th hd2 hM
    refine (k_M_jobAt  hd2 hM hO hi1 hi2 ).mono (fun v' h3 hp => ?_)
    rcases hp with ⟨d1, e, m, g⟩ | ⟨m1, m, g⟩
    · exact ⟨fun _ => by rw [e, hv], m, g⟩
    · exfalso; first | contradiction | omega
theorem w_planned {d : Nat} {h : PH} {σ : CS} {f : Nat → Int} {j0 w0 : Int} (hd : 21 ≤ d) (hI : BMI 169 h 0 σ) (hO : BOk σ) (hA : At1 169 h 168 (cJ 1 f)) (hi1 : IR j0) (hi2 : IR w0) : Ctr mL_planned d 1 6 false [vR 0, vI j0, vI w0, vR 168] 169 h (WPost h (MCI mX6_planned [vI j0, vI w0] σ)) := by
  obtain ⟨⟨S, P, kn, bs⟩, sv, x, tx, tl⟩ := σ
  refine q_beginW (L := [some (vR 0), some (vI j0), some (vI w0), some (vR 168), none]) rfl ?_
  refine q_aload_n (pc' := 1) (dk_at dkL_planned 0 rfl) rfl rfl ?_
  refine q_iconst (pc' := 2) (dk_at dkL_planned 1 rfl) rfl ?_
  refine q_aload_n (pc' := 3) (dk_at dkL_planned 2 rfl) rfl rfl ?_
  refine q_iload_n (pc' := 4) (dk_at dkL_planned 3 rfl) rfl rfl ?_
  refine q_iload_n (pc' := 5) (dk_at dkL_planned 4 rfl) rfl rfl ?_
  refine q_callVX (pc' := 8) (j := 4) (As := [vI j0, vI w0]) (S := [vI 0, vR 168]) (L' := [none, none, none, none, none]) cv_RL_53 (dk_at dkL_planned 5 rfl) hI.1.obj rfl (k_BM_planned (d := 20) (Nat.le_refl _) hI hO hi1 hi2) (by omega) (by decide) (by decide) rfl (Nat.le_of_ble_eq_true rfl) rfl (Nat.le_of_ble_eq_true rfl) rfl (by decide) (fun B q hq => absurd hq (List.not_mem_nil)) ?_ ?_
  · rintro E h' ⟨rfl, ⟨rfl, n1⟩ | ⟨rfl, c1, n2⟩⟩
    · refine ⟨13, 2, hdmL_planned_21, Or.inr ⟨(dk_at dkL_planned 9 rfl), rfl⟩, ?_⟩
      refine q_iconst (pc' := 16) (dk_at dkL_planned 10 rfl) rfl ?_
      refine q_iret rfl (dk_at dkL_planned 11 rfl) (by decide) (by decide) ⟨rfl, 1, 0, ((S, P, kn, bs), sv, x, tx, tl), rfl, by decide, ?_, hI, hO, ⟨f, hA, fun z => absurd z (by decide)⟩, fun _ _ _ => rfl⟩
      intro d2 h2 th hd2 hM
      refine (k_M_planned  hd2 hM hO hi1 hi2 ).mono (fun v' h3 hp => ?_)
      rcases hp with ⟨d1, d2, e, m, g⟩ | ⟨m1, m, g⟩ | ⟨m1, m2, m, g⟩
      · exfalso; first | contradiction | omega
      · exact ⟨fun z => absurd z (by decide), m, g⟩
      · exfalso; first | contradiction | omega
    · refine ⟨17, 2, hdmL_planned_13, Or.inr ⟨(dk_at dkL_planned 12 rfl), rfl⟩, ?_⟩
      refine q_iconst (pc' := 20) (dk_at dkL_planned 13 rfl) rfl ?_
      refine q_iret rfl (dk_at dkL_planned 14 rfl) (by decide) (by decide) ⟨rfl, 2, 0, ((S, P, kn, bs), sv, x, tx, tl), rfl, by decide, ?_, hI, hO, ⟨f, hA, fun z => absurd z (by decide)⟩, fun _ _ _ => rfl⟩
      intro d2 h2 th hd2 hM
      refine (k_M_planned  hd2 hM hO hi1 hi2 ).mono (fun v' h3 hp => ?_)
      rcases hp with ⟨d1, d2, e, m, g⟩ | ⟨m1, m, g⟩ | ⟨m1, m2, m, g⟩
      · exfalso; first | contradiction | omega
      · exfalso; first | contradiction | omega
      · exact ⟨fun z => absurd z (by decide), m, g⟩
  · rintro r h' ⟨v, rfl, c1, c2, hv, hB, hF⟩
    have hA' : At1 169 h' 168 (cJ 1 f) := hA.fr (hF 168 (by omega))
    refine q_i2ln (pc' := 9) (dk_at dkL_planned 6 rfl) rfl ?_
    refine r_last (pc' := 10) (dk_at dkL_planned 7 rfl) hA' 0 rfl (by decide) (by decide) rfl ?_
    intro h4 e4
    refine q_goto (tgt := 21) (dk_at dkL_planned 8 rfl) (by decide) ?_
    refine q_iconst (pc' := 22) (dk_at dkL_planned 15 rfl) rfl ?_
    refine q_iret rfl (dk_at dkL_planned 16 rfl) (by decide) (by decide) ⟨rfl, 0, (nrI v), ((S, P, kn, bs), sv, x, tx, tl), rfl, by decide, ?_, hB.frm (fr1 e4) (by omega), hO, ⟨upz f 0 (nrI v), hA'.put e4, fun _ => upz_eq _ _ _⟩, fun k k1 k2 => by rw [e4, hp_ne (by omega)]; exact hF k (by omega)⟩
    intro d2 h2 th hd2 hM
    refine (k_M_planned  hd2 hM hO hi1 hi2 ).mono (fun v' h3 hp => ?_)
    rcases hp with ⟨d1, d2, e, m, g⟩ | ⟨m1, m, g⟩ | ⟨m1, m2, m, g⟩
    · exact ⟨fun _ => by rw [pvS_one hO.1.2.1 e hv], m, g⟩
    · exfalso; first | contradiction | omega
    · exfalso; first | contradiction | omega
theorem w_total {d : Nat} {h : PH} {σ : CS} {f : Nat → Int} {w0 : Int} (hd : 21 ≤ d) (hI : BMI 169 h 0 σ) (hO : BOk σ) (hA : At1 169 h 168 (cJ 1 f)) (hi1 : IR w0) : Ctr mL_total d 1 6 false [vR 0, vI w0, vR 168] 169 h (WPost h (MCI mX6_total [vI w0] σ)) := by
  obtain ⟨⟨S, P, kn, bs⟩, sv, x, tx, tl⟩ := σ
  refine q_beginW (L := [some (vR 0), some (vI w0), some (vR 168), none]) rfl ?_
  refine q_aload_n (pc' := 1) (dk_at dkL_total 0 rfl) rfl rfl ?_
  refine q_iconst (pc' := 2) (dk_at dkL_total 1 rfl) rfl ?_
  refine q_aload_n (pc' := 3) (dk_at dkL_total 2 rfl) rfl rfl ?_
  refine q_iload_n (pc' := 4) (dk_at dkL_total 3 rfl) rfl rfl ?_
  refine q_callVX (pc' := 7) (j := 3) (As := [vI w0]) (S := [vI 0, vR 168]) (L' := [none, none, none, none]) cv_RL_56 (dk_at dkL_total 4 rfl) hI.1.obj rfl (k_BM_total (d := 20) (Nat.le_refl _) hI hO hi1) (by omega) (by decide) (by decide) rfl (Nat.le_of_ble_eq_true rfl) rfl (Nat.le_of_ble_eq_true rfl) rfl (by decide) (fun B q hq => absurd hq (List.not_mem_nil)) ?_ ?_
  · rintro E h' ⟨rfl, rfl, n1⟩
    refine ⟨12, 1, hdmL_total_13, Or.inl ⟨3, rfl, (dk_at dkL_total 8 rfl), rfl⟩, ?_⟩
    refine q_iconst (pc' := 14) (dk_at dkL_total 9 rfl) rfl ?_
    refine q_iret rfl (dk_at dkL_total 10 rfl) (by decide) (by decide) ⟨rfl, 1, 0, ((S, P, kn, bs), sv, x, tx, tl), rfl, by decide, ?_, hI, hO, ⟨f, hA, fun z => absurd z (by decide)⟩, fun _ _ _ => rfl⟩
    intro d2 h2 th hd2 hM
    refine (k_M_total  hd2 hM hO hi1 ).mono (fun v' h3 hp => ?_)
    rcases hp with ⟨d1, e, m, g⟩ | ⟨m1, m, g⟩
    · exfalso; first | contradiction | omega
    · exact ⟨fun z => absurd z (by decide), m, g⟩
  · rintro r h' ⟨v, rfl, c1, hv, hB, hF⟩
    have hA' : At1 169 h' 168 (cJ 1 f) := hA.fr (hF 168 (by omega))
    refine q_i2ln (pc' := 8) (dk_at dkL_total 5 rfl) rfl ?_
    refine r_last (pc' := 9) (dk_at dkL_total 6 rfl) hA' 0 rfl (by decide) (by decide) rfl ?_
    intro h4 e4
    refine q_goto (tgt := 15) (dk_at dkL_total 7 rfl) (by decide) ?_
    refine q_iconst (pc' := 16) (dk_at dkL_total 11 rfl) rfl ?_
    refine q_iret rfl (dk_at dkL_total 12 rfl) (by decide) (by decide) ⟨rfl, 0, (nrI v), ((S, P, kn, bs), sv, x, tx, tl), rfl, by decide, ?_, hB.frm (fr1 e4) (by omega), hO, ⟨upz f 0 (nrI v), hA'.put e4, fun _ => upz_eq _ _ _⟩, fun k k1 k2 => by rw [e4, hp_ne (by omega)]; exact hF k (by omega)⟩
    intro d2 h2 th hd2 hM
    refine (k_M_total  hd2 hM hO hi1 ).mono (fun v' h3 hp => ?_)
    rcases hp with ⟨d1, e, m, g⟩ | ⟨m1, m, g⟩
    · exact ⟨fun _ => by rw [e, hv], m, g⟩
    · exfalso; first | contradiction | omega
theorem w_ruleCost {d : Nat} {h : PH} {σ : CS} {f : Nat → Int} {r0 : Int} (hd : 21 ≤ d) (hI : BMI 169 h 0 σ) (hO : BOk σ) (hA : At1 169 h 168 (cJ 1 f)) (hi1 : IR r0) : Ctr mL_ruleCost d 1 6 false [vR 0, vI r0, vR 168] 169 h (WPost h (MCJ mX6_ruleCost [vI r0] σ)) := by
  obtain ⟨⟨S, P, kn, bs⟩, sv, x, tx, tl⟩ := σ
  refine q_beginW (L := [some (vR 0), some (vI r0), some (vR 168), none]) rfl ?_
  refine q_aload_n (pc' := 1) (dk_at dkL_ruleCost 0 rfl) rfl rfl ?_
  refine q_iconst (pc' := 2) (dk_at dkL_ruleCost 1 rfl) rfl ?_
  refine q_aload_n (pc' := 3) (dk_at dkL_ruleCost 2 rfl) rfl rfl ?_
  refine q_iload_n (pc' := 4) (dk_at dkL_ruleCost 3 rfl) rfl rfl ?_
  refine q_callVX (pc' := 7) (j := 3) (As := [vI r0]) (S := [vI 0, vR 168]) (L' := [none, none, none, none]) cv_RL_59 (dk_at dkL_ruleCost 4 rfl) hI.1.obj rfl (k_BM_ruleCost (d := 20) (Nat.le_refl _) hI hO hi1) (by omega) (by decide) (by decide) rfl (Nat.le_of_ble_eq_true rfl) rfl (Nat.le_of_ble_eq_true rfl) rfl (by decide) (fun B q hq => absurd hq (List.not_mem_nil)) ?_ ?_
  · rintro E h' ⟨rfl, rfl, n1⟩
    refine ⟨11, 1, hdmL_ruleCost_13, Or.inl ⟨3, rfl, (dk_at dkL_ruleCost 7 rfl), rfl⟩, ?_⟩
    refine q_iconst (pc' := 13) (dk_at dkL_ruleCost 8 rfl) rfl ?_
    refine q_iret rfl (dk_at dkL_ruleCost 9 rfl) (by decide) (by decide) ⟨rfl, 1, 0, ((S, P, kn, bs), sv, x, tx, tl), rfl, by decide, ?_, hI, hO, ⟨f, hA, fun z => absurd z (by decide)⟩, fun _ _ _ => rfl⟩
    intro d2 h2 th hd2 hM
    refine (k_M_ruleCost (o := fun _ => 0) (e := fun _ => 0) hd2 hM hO hi1 (fun _ => ⟨Int.le_refl _, show (0 : Int) ≤ 7 by decide⟩)).mono (fun v' h3 hp => ?_)
    rcases hp with ⟨d1, e, m, g⟩ | ⟨m1, m, g⟩
    · exfalso; first | contradiction | omega
    · exact ⟨fun z => absurd z (by decide), m, g⟩
  · rintro r h' ⟨v, rfl, c1, o0, e0, ho, hv, hB, hF⟩
    have hA' : At1 169 h' 168 (cJ 1 f) := hA.fr (hF 168 (by omega))
    refine r_last (pc' := 8) (dk_at dkL_ruleCost 5 rfl) hA' 0 rfl (by decide) (by decide) rfl ?_
    intro h4 e4
    refine q_goto (tgt := 14) (dk_at dkL_ruleCost 6 rfl) (by decide) ?_
    refine q_iconst (pc' := 15) (dk_at dkL_ruleCost 10 rfl) rfl ?_
    refine q_iret rfl (dk_at dkL_ruleCost 11 rfl) (by decide) (by decide) ⟨rfl, 0, v, ((S, P, kn, bs), sv, x, tx, tl), rfl, by decide, ?_, hB.frm (fr1 e4) (by omega), hO, ⟨upz f 0 v, hA'.put e4, fun _ => upz_eq _ _ _⟩, fun k k1 k2 => by rw [e4, hp_ne (by omega)]; exact hF k (by omega)⟩
    intro d2 h2 th hd2 hM
    refine (k_M_ruleCost (o := o0) (e := e0) hd2 hM hO hi1 ho).mono (fun v' h3 hp => ?_)
    rcases hp with ⟨d1, e, m, g⟩ | ⟨m1, m, g⟩
    · exact ⟨fun _ => by rw [e, hv], m, g⟩
    · exfalso; first | contradiction | omega
theorem w_bestWithout {d : Nat} {h : PH} {σ : CS} {f : Nat → Int} {j0 : Int} (hd : 21 ≤ d) (hI : BMI 169 h 0 σ) (hO : BOk σ) (hA : At1 169 h 168 (cJ 1 f)) (hi1 : IR j0) : Ctr mL_bestWithout d 1 6 false [vR 0, vI j0, vR 168] 169 h (WPost h (MCJ mX6_bestWithout [vI j0] σ)) := by
  obtain ⟨⟨S, P, kn, bs⟩, sv, x, tx, tl⟩ := σ
  refine q_beginW (L := [some (vR 0), some (vI j0), some (vR 168), none]) rfl ?_
  refine q_aload_n (pc' := 1) (dk_at dkL_bestWithout 0 rfl) rfl rfl ?_
  refine q_iconst (pc' := 2) (dk_at dkL_bestWithout 1 rfl) rfl ?_
  refine q_aload_n (pc' := 3) (dk_at dkL_bestWithout 2 rfl) rfl rfl ?_
  refine q_iload_n (pc' := 4) (dk_at dkL_bestWithout 3 rfl) rfl rfl ?_
  refine q_callVX (pc' := 7) (j := 3) (As := [vI j0]) (S := [vI 0, vR 168]) (L' := [none, none, none, none]) cv_RL_62 (dk_at dkL_bestWithout 4 rfl) hI.1.obj rfl (k_BM_bestWithout (d := 20) (Nat.le_refl _) hI hO hi1) (by omega) (by decide) (by decide) rfl (Nat.le_of_ble_eq_true rfl) rfl (Nat.le_of_ble_eq_true rfl) rfl (by decide) (fun B q hq => absurd hq (List.not_mem_nil)) ?_ ?_
  · rintro E h' ⟨rfl, rfl, n1⟩
    refine ⟨11, 1, hdmL_bestWithout_21, Or.inl ⟨3, rfl, (dk_at dkL_bestWithout 7 rfl), rfl⟩, ?_⟩
    refine q_iconst (pc' := 13) (dk_at dkL_bestWithout 8 rfl) rfl ?_
    refine q_iret rfl (dk_at dkL_bestWithout 9 rfl) (by decide) (by decide) ⟨rfl, 1, 0, ((S, P, kn, bs), sv, x, tx, tl), rfl, by decide, ?_, hI, hO, ⟨f, hA, fun z => absurd z (by decide)⟩, fun _ _ _ => rfl⟩
    intro d2 h2 th hd2 hM
    refine (k_M_bestWithout  hd2 hM hO hi1 ).mono (fun v' h3 hp => ?_)
    rcases hp with ⟨d1, e, m, g⟩ | ⟨m1, m, g⟩
    · exfalso; first | contradiction | omega
    · exact ⟨fun z => absurd z (by decide), m, g⟩
  · rintro r h' ⟨v, rfl, c1, hv, hB, hF⟩
    have hA' : At1 169 h' 168 (cJ 1 f) := hA.fr (hF 168 (by omega))
    refine r_last (pc' := 8) (dk_at dkL_bestWithout 5 rfl) hA' 0 rfl (by decide) (by decide) rfl ?_
    intro h4 e4
    refine q_goto (tgt := 14) (dk_at dkL_bestWithout 6 rfl) (by decide) ?_
    refine q_iconst (pc' := 15) (dk_at dkL_bestWithout 10 rfl) rfl ?_
    refine q_iret rfl (dk_at dkL_bestWithout 11 rfl) (by decide) (by decide) ⟨rfl, 0, v, ((S, P, kn, bs), sv, x, tx, tl), rfl, by decide, ?_, hB.frm (fr1 e4) (by omega), hO, ⟨upz f 0 v, hA'.put e4, fun _ => upz_eq _ _ _⟩, fun k k1 k2 => by rw [e4, hp_ne (by omega)]; exact hF k (by omega)⟩
    intro d2 h2 th hd2 hM
    refine (k_M_bestWithout  hd2 hM hO hi1 ).mono (fun v' h3 hp => ?_)
    rcases hp with ⟨d1, e, m, g⟩ | ⟨m1, m, g⟩
    · exact ⟨fun _ => by rw [e, hv], m, g⟩
    · exfalso; first | contradiction | omega
theorem w_bestWithFirst {d : Nat} {h : PH} {σ : CS} {f : Nat → Int} {j0 : Int} (hd : 21 ≤ d) (hI : BMI 169 h 0 σ) (hO : BOk σ) (hA : At1 169 h 168 (cJ 1 f)) (hi1 : IR j0) : Ctr mL_bestWithFirst d 1 6 false [vR 0, vI j0, vR 168] 169 h (WPost h (MCJ mX6_bestWithFirst [vI j0] σ)) := by
  obtain ⟨⟨S, P, kn, bs⟩, sv, x, tx, tl⟩ := σ
  refine q_beginW (L := [some (vR 0), some (vI j0), some (vR 168), none]) rfl ?_
  refine q_aload_n (pc' := 1) (dk_at dkL_bestWithFirst 0 rfl) rfl rfl ?_
  refine q_iconst (pc' := 2) (dk_at dkL_bestWithFirst 1 rfl) rfl ?_
  refine q_aload_n (pc' := 3) (dk_at dkL_bestWithFirst 2 rfl) rfl rfl ?_
  refine q_iload_n (pc' := 4) (dk_at dkL_bestWithFirst 3 rfl) rfl rfl ?_
  refine q_callVX (pc' := 7) (j := 3) (As := [vI j0]) (S := [vI 0, vR 168]) (L' := [none, none, none, none]) cv_RL_65 (dk_at dkL_bestWithFirst 4 rfl) hI.1.obj rfl (k_BM_bestWithFirst (d := 20) (Nat.le_refl _) hI hO hi1) (by omega) (by decide) (by decide) rfl (Nat.le_of_ble_eq_true rfl) rfl (Nat.le_of_ble_eq_true rfl) rfl (by decide) (fun B q hq => absurd hq (List.not_mem_nil)) ?_ ?_
  · rintro E h' ⟨rfl, rfl, n1⟩
    refine ⟨11, 1, hdmL_bestWithFirst_21, Or.inl ⟨3, rfl, (dk_at dkL_bestWithFirst 7 rfl), rfl⟩, ?_⟩
    refine q_iconst (pc' := 13) (dk_at dkL_bestWithFirst 8 rfl) rfl ?_
    refine q_iret rfl (dk_at dkL_bestWithFirst 9 rfl) (by decide) (by decide) ⟨rfl, 1, 0, ((S, P, kn, bs), sv, x, tx, tl), rfl, by decide, ?_, hI, hO, ⟨f, hA, fun z => absurd z (by decide)⟩, fun _ _ _ => rfl⟩
    intro d2 h2 th hd2 hM
    refine (k_M_bestWithFirst  hd2 hM hO hi1 ).mono (fun v' h3 hp => ?_)
    rcases hp with ⟨d1, e, m, g⟩ | ⟨m1, m, g⟩
    · exfalso; first | contradiction | omega
    · exact ⟨fun z => absurd z (by decide), m, g⟩
  · rintro r h' ⟨v, rfl, c1, hv, hB, hF⟩
    have hA' : At1 169 h' 168 (cJ 1 f) := hA.fr (hF 168 (by omega))
    refine r_last (pc' := 8) (dk_at dkL_bestWithFirst 5 rfl) hA' 0 rfl (by decide) (by decide) rfl ?_
    intro h4 e4
    refine q_goto (tgt := 14) (dk_at dkL_bestWithFirst 6 rfl) (by decide) ?_
    refine q_iconst (pc' := 15) (dk_at dkL_bestWithFirst 10 rfl) rfl ?_
    refine q_iret rfl (dk_at dkL_bestWithFirst 11 rfl) (by decide) (by decide) ⟨rfl, 0, v, ((S, P, kn, bs), sv, x, tx, tl), rfl, by decide, ?_, hB.frm (fr1 e4) (by omega), hO, ⟨upz f 0 v, hA'.put e4, fun _ => upz_eq _ _ _⟩, fun k k1 k2 => by rw [e4, hp_ne (by omega)]; exact hF k (by omega)⟩
    intro d2 h2 th hd2 hM
    refine (k_M_bestWithFirst  hd2 hM hO hi1 ).mono (fun v' h3 hp => ?_)
    rcases hp with ⟨d1, e, m, g⟩ | ⟨m1, m, g⟩
    · exact ⟨fun _ => by rw [e, hv], m, g⟩
    · exfalso; first | contradiction | omega
theorem w_latestRelease {d : Nat} {h : PH} {σ : CS} {f : Nat → Int} {j0 : Int} (hd : 21 ≤ d) (hI : BMI 169 h 0 σ) (hO : BOk σ) (hA : At1 169 h 168 (cJ 1 f)) (hi1 : IR j0) : Ctr mL_latestRelease d 1 6 false [vR 0, vI j0, vR 168] 169 h (WPost h (MCI mX6_latestRelease [vI j0] σ)) := by
  obtain ⟨⟨S, P, kn, bs⟩, sv, x, tx, tl⟩ := σ
  refine q_beginW (L := [some (vR 0), some (vI j0), some (vR 168), none]) rfl ?_
  refine q_aload_n (pc' := 1) (dk_at dkL_latestRelease 0 rfl) rfl rfl ?_
  refine q_iconst (pc' := 2) (dk_at dkL_latestRelease 1 rfl) rfl ?_
  refine q_aload_n (pc' := 3) (dk_at dkL_latestRelease 2 rfl) rfl rfl ?_
  refine q_iload_n (pc' := 4) (dk_at dkL_latestRelease 3 rfl) rfl rfl ?_
  refine q_callVX (pc' := 7) (j := 3) (As := [vI j0]) (S := [vI 0, vR 168]) (L' := [none, none, none, none]) cv_RL_68 (dk_at dkL_latestRelease 4 rfl) hI.1.obj rfl (k_BM_latestRelease (d := 20) (Nat.le_refl _) hI hO hi1) (by omega) (by decide) (by decide) rfl (Nat.le_of_ble_eq_true rfl) rfl (Nat.le_of_ble_eq_true rfl) rfl (by decide) (fun B q hq => absurd hq (List.not_mem_nil)) ?_ ?_
  · rintro E h' ⟨rfl, rfl, n1⟩
    refine ⟨12, 1, hdmL_latestRelease_21, Or.inl ⟨3, rfl, (dk_at dkL_latestRelease 8 rfl), rfl⟩, ?_⟩
    refine q_iconst (pc' := 14) (dk_at dkL_latestRelease 9 rfl) rfl ?_
    refine q_iret rfl (dk_at dkL_latestRelease 10 rfl) (by decide) (by decide) ⟨rfl, 1, 0, ((S, P, kn, bs), sv, x, tx, tl), rfl, by decide, ?_, hI, hO, ⟨f, hA, fun z => absurd z (by decide)⟩, fun _ _ _ => rfl⟩
    intro d2 h2 th hd2 hM
    refine (k_M_latestRelease (vn := 0) hd2 hM hO hi1 (fun z => absurd z n1)).mono (fun v' h3 hp => ?_)
    rcases hp with ⟨d1, e, m, g⟩ | ⟨m1, m, g⟩
    · exfalso; first | contradiction | omega
    · exact ⟨fun z => absurd z (by decide), m, g⟩
  · rintro r h' ⟨v, rfl, c1, vn, hv, g1, g2, g3, g4, kn', bs', hbst, hB, hF⟩
    have hA' : At1 169 h' 168 (cJ 1 f) := hA.fr (hF 168 (by omega))
    refine q_i2ln (pc' := 8) (dk_at dkL_latestRelease 5 rfl) rfl ?_
    refine r_last (pc' := 9) (dk_at dkL_latestRelease 6 rfl) hA' 0 rfl (by decide) (by decide) rfl ?_
    intro h4 e4
    refine q_goto (tgt := 15) (dk_at dkL_latestRelease 7 rfl) (by decide) ?_
    refine q_iconst (pc' := 16) (dk_at dkL_latestRelease 11 rfl) rfl ?_
    refine q_iret rfl (dk_at dkL_latestRelease 12 rfl) (by decide) (by decide) ⟨rfl, 0, (nrI v), ((S, P, kn', bs'), sv, x, tx, tl), rfl, by decide, ?_, hB.frm (fr1 e4) (by omega), hO.cur ⟨hO.1.1, hO.1.2.1, hbst⟩, ⟨upz f 0 (nrI v), hA'.put e4, fun _ => upz_eq _ _ _⟩, fun k k1 k2 => by rw [e4, hp_ne (by omega)]; exact hF k (by omega)⟩
    intro d2 h2 th hd2 hM
    refine (k_M_latestRelease (vn := vn) hd2 hM hO hi1 (fun _ => by rw [hv] at g1 g2 g4; exact ⟨g1, g2, g3, g4⟩)).mono (fun v' h3 hp => ?_)
    rcases hp with ⟨d1, e, m, g⟩ | ⟨m1, m, g⟩
    · exact ⟨fun _ => by rw [e, hv], m, g⟩
    · exfalso; first | contradiction | omega
theorem w_undo {d : Nat} {h : PH} {σ : CS} {f : Nat → Int}  (hd : 21 ≤ d) (hI : BMI 169 h 0 σ) (hO : BOk σ) (hA : At1 169 h 168 (cJ 1 f))  : Ctr mL_undo d 1 6 false [vR 0, vR 168] 169 h (WPost h (MCI mX6_undo [] σ)) := by
  obtain ⟨⟨S, P, kn, bs⟩, sv, x, tx, tl⟩ := σ
  refine q_beginW (L := [some (vR 0), some (vR 168), none]) rfl ?_
  refine q_aload_n (pc' := 1) (dk_at dkL_undo 0 rfl) rfl rfl ?_
  refine q_iconst (pc' := 2) (dk_at dkL_undo 1 rfl) rfl ?_
  refine q_aload_n (pc' := 3) (dk_at dkL_undo 2 rfl) rfl rfl ?_
  refine q_callVX (pc' := 6) (j := 2) (As := []) (S := [vI 0, vR 168]) (L' := [none, none, none]) cv_RL_71 (dk_at dkL_undo 3 rfl) hI.1.obj rfl (k_BM_undo (d := 20) (Nat.le_refl _) hI hO ) (by omega) (by decide) (by decide) rfl (Nat.le_of_ble_eq_true rfl) rfl (Nat.le_of_ble_eq_true rfl) rfl (by decide) (fun B q hq => absurd hq (List.not_mem_nil)) ?_ ?_
  · rintro E h' ⟨rfl, rfl, n1⟩
    refine ⟨11, 1, hdmL_undo_15, Or.inl ⟨2, rfl, (dk_at dkL_undo 7 rfl), rfl⟩, ?_⟩
    refine q_iconst (pc' := 13) (dk_at dkL_undo 8 rfl) rfl ?_
    refine q_iret rfl (dk_at dkL_undo 9 rfl) (by decide) (by decide) ⟨rfl, 1, 0, ((S, P, kn, bs), sv, x, tx, tl), rfl, by decide, ?_, hI, hO, ⟨f, hA, fun z => absurd z (by decide)⟩, fun _ _ _ => rfl⟩
    intro d2 h2 th hd2 hM
    refine (k_M_undo  hd2 hM hO  ).mono (fun v' h3 hp => ?_)
    rcases hp with ⟨d1, e, m, g⟩ | ⟨m1, m, g⟩
    · exfalso; first | contradiction | omega
    · exact ⟨fun z => absurd z (by decide), m, g⟩
  · rintro r h' ⟨v, rfl, c1, hv, hB, hF⟩
    have hA' : At1 169 h' 168 (cJ 1 f) := hA.fr (hF 168 (by omega))
    refine q_i2ln (pc' := 7) (dk_at dkL_undo 4 rfl) rfl ?_
    refine r_last (pc' := 8) (dk_at dkL_undo 5 rfl) hA' 0 rfl (by decide) (by decide) rfl ?_
    intro h4 e4
    refine q_goto (tgt := 14) (dk_at dkL_undo 6 rfl) (by decide) ?_
    refine q_iconst (pc' := 15) (dk_at dkL_undo 10 rfl) rfl ?_
    refine q_iret rfl (dk_at dkL_undo 11 rfl) (by decide) (by decide) ⟨rfl, 0, (nrI v), (x (sv - 1), sv - 1, x, tx, tl), rfl, by decide, ?_, hB.frm (fr1 e4) (by omega), hO.undo c1, ⟨upz f 0 (nrI v), hA'.put e4, fun _ => upz_eq _ _ _⟩, fun k k1 k2 => by rw [e4, hp_ne (by omega)]; exact hF k (by omega)⟩
    intro d2 h2 th hd2 hM
    refine (k_M_undo  hd2 hM hO  ).mono (fun v' h3 hp => ?_)
    rcases hp with ⟨d1, e, m, g⟩ | ⟨m1, m, g⟩
    · exact ⟨fun _ => by rw [e, hv], m, g⟩
    · exfalso; first | contradiction | omega
