/-! BatchMachineModel: saved states; jobs and settings -/
theorem q_join {M : MD} {d mc ms : Nat} {F : FT} {k u pc : Nat} {L : List (Option PV)} {S : List PV} {a : Bool} {n : Nat} {h : PH} (pc2 : Nat) (L2 : List (Option PV)) (S2 : List PV) (P : Int → Prop) (J : ∀ x, P x → QW M d mc ms F k u pc2 L2 (vI x :: S2) a n h) (K : (∀ x, P x → QW M d mc ms F k u pc2 L2 (vI x :: S2) a n h) → QW M d mc ms F k u pc L S a n h) : QW M d mc ms F k u pc L S a n h := K J
theorem upz_at {f : Nat → Int} {i j : Nat} {x : Int} (h : j = i) : upz f i x j = x := by rw [h, upz_eq]
theorem MRP.cong {A A' : Nat → Int} {x : Snp} (hk : SnOk x) (h : MRP A x) (he : ∀ k, k < 81 → A' k = A k) : MRP A' x :=
  ⟨h.1.cong (fun k hk => he k (by omega)) hk.1.c, h.2.cong (fun k _ hk => he k hk) hk.2.1.1⟩
def MSv (sd : Nat → Int) (sv : Nat) (x : Nat → Snp) : Prop := ∀ i, i < sv → MRP (fun k => sd (81 * i + k)) (x i)
def shf (sd : Nat → Int) (i : Nat) : Nat → Int := fun k => if k < i then sd (k + 81) else sd k
theorem shf_0 (sd : Nat → Int) : shf sd 0 = sd := by funext k; unfold shf; rw [if_neg (by omega)]
theorem shf_step (sd : Nat → Int) (i : Nat) : upz (shf sd i) i (shf sd i (i + 81)) = shf sd (i + 1) := by
  funext k
  unfold upz
  by_cases z : k = i
  · rw [if_pos z, z]; unfold shf; rw [if_neg (by omega), if_pos (by omega)]
  · rw [if_neg z]; unfold shf
    by_cases y : k < i
    · rw [if_pos y, if_pos (by omega)]
    · rw [if_neg y, if_neg (by omega)]
def cp81 (sd A : Nat → Int) (s i : Nat) : Nat → Int := fun k => if 81 * s ≤ k ∧ k < 81 * s + i then A (k - 81 * s) else sd k
theorem cp81_0 (sd A : Nat → Int) (s : Nat) : cp81 sd A s 0 = sd := by funext k; unfold cp81; rw [if_neg (by omega)]
theorem cp81_step (sd A : Nat → Int) (s i : Nat) : upz (cp81 sd A s i) (81 * s + i) (A i) = cp81 sd A s (i + 1) := by
  funext k
  unfold upz cp81
  by_cases z : k = 81 * s + i
  · rw [if_pos z, if_pos (by omega), show k - 81 * s = i by omega]
  · rw [if_neg z]
    by_cases y : 81 * s ≤ k ∧ k < 81 * s + i
    · rw [if_pos y, if_pos (by omega)]
    · rw [if_neg y, if_neg (by omega)]
theorem MSv.psh {sd A : Nat → Int} {sv : Nat} {x : Nat → Snp} {c : Snp} (hc : SnOk c) (hks : ∀ i, i < sv → SnOk (x i)) (hsv : sv ≤ 4) (h : MSv sd sv x) (hA : MRP A c) : MSv (if sv = 4 then cp81 (shf sd 243) A 3 81 else cp81 sd A sv 81) (pshN sv) (pshX sv x c) := by
  intro i hi
  unfold pshN at hi
  unfold pshX
  by_cases q : sv = 4
  · rw [if_pos q] at hi
    rw [if_pos q, if_pos q]
    by_cases z : i < 3
    · rw [if_pos z]
      refine (h (i + 1) (by omega)).cong (hks (i + 1) (by omega)) (fun k hk => ?_)
      unfold cp81 shf
      rw [if_neg (by omega), if_pos (by omega)]
      exact congrArg _ (by omega)
    · rw [if_neg z]
      refine hA.cong hc (fun k hk => ?_)
      unfold cp81
      rw [if_pos (by omega)]
      exact congrArg _ (by omega)
  · rw [if_neg q] at hi
    rw [if_neg q, if_neg q]
    by_cases z : i = sv
    · rw [if_pos z]
      refine hA.cong hc (fun k hk => ?_)
      unfold cp81
      rw [if_pos (by omega)]
      exact congrArg _ (by omega)
    · rw [if_neg z]
      refine (h i (by omega)).cong (hks i (by omega)) (fun k hk => ?_)
      unfold cp81
      rw [if_neg (by omega)]
set_option maxHeartbeats 4000000 in
set_option maxRecDepth 100000 in
theorem l_save1M {d n : Nat} {F : FT} {h : PH} {m : Nat} {A sd sq op ss es bo su se tx ba le fr un sF sR sT ad : Nat → Int} {sm th l0 bm tl nf ne nc : Int} (hex : ∀ (h1 : PH) (i : Int), isModel n h1 m A (shf sd 243) sm th sq op l0 ss es bo su se bm tx tl ba le fr un nf ne nc sF sR sT ad → Fr h h1 m (m + 19) → QN mX6_save d F 38 [some (vR m), some (vI i)] [] n h1) : ∀ (c : Nat) (i : Nat) (h1 : PH), (i + c = 243) → (isModel n h1 m A (shf sd i) sm th sq op l0 ss es bo su se bm tx tl ba le fr un nf ne nc sF sR sT ad) → (Fr h h1 m (m + 19)) → QN mX6_save d F 10 [some (vR m), some (vI (i : Int))] [] n h1 := by
  intro c
  induction c with
  | zero =>
    intro i h1 hc hM hF
    refine q_iload_n (pc' := 11) (dk_at dkX6_save 6 rfl) rfl rfl ?_
    refine q_sipush (pc' := 14) (dk_at dkX6_save 7 rfl) (by decide +kernel) rfl ?_
    refine q_icmp_ge (tgt := 38) (pc' := 17) (dk_at dkX6_save 8 rfl) rfl rfl (by omega) (by omega) (fun c14 => ?_) (fun c14 => ?_)
    · first | (exfalso; omega; done) | exact hex _ _ (by rw [← show i = 243 by omega]; exact hM) hF
    · exfalso
      omega
  | succ c ih =>
    intro i h1 hc hM hF
    refine q_iload_n (pc' := 11) (dk_at dkX6_save 6 rfl) rfl rfl ?_
    refine q_sipush (pc' := 14) (dk_at dkX6_save 7 rfl) (by decide +kernel) rfl ?_
    refine q_icmp_ge (tgt := 38) (pc' := 17) (dk_at dkX6_save 8 rfl) rfl rfl (by omega) (by omega) (fun c14 => ?_) (fun c14 => ?_)
    · first | (exfalso; omega; done) | exact hex _ _ (by rw [← show i = 243 by omega]; exact hM) hF
    · refine q_aload_n (pc' := 18) (dk_at dkX6_save 9 rfl) rfl rfl ?_
      refine r_getf (pc' := 21) fl_RX6_13 (dk_at dkX6_save 10 rfl) hM.obj rfl rfl ?_
      refine q_iload_n (pc' := 22) (dk_at dkX6_save 11 rfl) rfl rfl ?_
      refine q_aload_n (pc' := 23) (dk_at dkX6_save 12 rfl) rfl rfl ?_
      refine r_getf (pc' := 26) fl_RX6_13 (dk_at dkX6_save 13 rfl) hM.obj rfl rfl ?_
      refine q_iload_n (pc' := 27) (dk_at dkX6_save 14 rfl) rfl rfl ?_
      refine q_bipush (pc' := 29) (dk_at dkX6_save 15 rfl) (by decide +kernel) rfl ?_
      refine q_iadd (pc' := 30) (dk_at dkX6_save 16 rfl) rfl ?_
      refine r_iald (pc' := 31) (dk_at dkX6_save 17 rfl) hM.saved (i + 81) (by omega) (by omega) (by decide) rfl ?_
      refine r_iast (pc' := 32) (dk_at dkX6_save 18 rfl) hM.saved i (by omega) (by omega) (by decide) rfl (fun hh1 ehh1 => ?_)
      have hM := hM.w_saved ehh1
      have hF := hF.put ehh1 (by omega)
      refine q_iinc (pc' := 35) (L' := [some (vR m), some (vI ((i : Int) + 1))]) (dk_at dkX6_save 19 rfl) (by decide) rfl rfl rfl ?_
      rw [show ((i : Int) + 1) = ((i + 1 : Nat) : Int) by omega]
      refine q_goto (tgt := 10) (dk_at dkX6_save 20 rfl) rfl ?_
      rw [shf_step] at hM
      exact ih (i + 1) _ (by omega) hM hF

set_option maxHeartbeats 4000000 in
set_option maxRecDepth 100000 in
theorem l_save2M {d n : Nat} {h : PH} {m sv : Nat} {A sd sq op ss es bo su se tx ba le fr un sF sR sT ad : Nat → Int} {th l0 bm tl nf ne nc : Int} (hsv : sv < 4) : ∀ (c : Nat) (i : Nat) (h1 : PH), (i + c = 81) → (isModel n h1 m A (cp81 sd A sv i) (sv : Int) th sq op l0 ss es bo su se bm tx tl ba le fr un nf ne nc sF sR sT ad) → (Fr h h1 m (m + 19)) → QN mX6_save d (FV n (fun h' => isModel n h' m A (cp81 sd A sv 81) ((sv : Int) + 1) th sq op l0 ss es bo su se bm tx tl ba le fr un nf ne nc sF sR sT ad ∧ Fr h h' m (m + 19))) 50 [some (vR m), some (vI (i : Int))] [] n h1 := by
  intro c
  induction c with
  | zero =>
    intro i h1 hc hM hF
    refine q_iload_n (pc' := 51) (dk_at dkX6_save 29 rfl) rfl rfl ?_
    refine q_bipush (pc' := 53) (dk_at dkX6_save 30 rfl) (by decide +kernel) rfl ?_
    refine q_icmp_ge (tgt := 82) (pc' := 56) (dk_at dkX6_save 31 rfl) rfl rfl (by omega) (by omega) (fun c53 => ?_) (fun c53 => ?_)
    · refine q_aload_n (pc' := 83) (dk_at dkX6_save 47 rfl) rfl rfl ?_
      refine q_dup (pc' := 84) (fun _ => rfl) (dk_at dkX6_save 48 rfl) rfl ?_
      refine r_getf (pc' := 87) fl_RX6_70 (dk_at dkX6_save 49 rfl) hM.obj rfl rfl ?_
      refine q_iconst (pc' := 88) (dk_at dkX6_save 50 rfl) rfl ?_
      refine q_iadd (pc' := 89) (dk_at dkX6_save 51 rfl) rfl ?_
      refine r_putf (pc' := 92) fp_RX6_70 (dk_at dkX6_save 52 rfl) hM.obj (Nat.le_of_ble_eq_true rfl) (PT_int _) rfl (fun hh1 ehh1 => ?_)
      have hM := hM.w_obj ehh1
      have hF := hF.put ehh1 (by omega)
      refine r_vret rfl (dk_at dkX6_save 53 rfl) ?_
      have ei : i = 81 := by omega
      rw [ei] at hM
      exact ⟨hM, hF⟩
    · exfalso
      omega
  | succ c ih =>
    intro i h1 hc hM hF
    refine q_iload_n (pc' := 51) (dk_at dkX6_save 29 rfl) rfl rfl ?_
    refine q_bipush (pc' := 53) (dk_at dkX6_save 30 rfl) (by decide +kernel) rfl ?_
    refine q_icmp_ge (tgt := 82) (pc' := 56) (dk_at dkX6_save 31 rfl) rfl rfl (by omega) (by omega) (fun c53 => ?_) (fun c53 => ?_)
    · refine q_aload_n (pc' := 83) (dk_at dkX6_save 47 rfl) rfl rfl ?_
      refine q_dup (pc' := 84) (fun _ => rfl) (dk_at dkX6_save 48 rfl) rfl ?_
      refine r_getf (pc' := 87) fl_RX6_70 (dk_at dkX6_save 49 rfl) hM.obj rfl rfl ?_
      refine q_iconst (pc' := 88) (dk_at dkX6_save 50 rfl) rfl ?_
      refine q_iadd (pc' := 89) (dk_at dkX6_save 51 rfl) rfl ?_
      refine r_putf (pc' := 92) fp_RX6_70 (dk_at dkX6_save 52 rfl) hM.obj (Nat.le_of_ble_eq_true rfl) (PT_int _) rfl (fun hh1 ehh1 => ?_)
      have hM := hM.w_obj ehh1
      have hF := hF.put ehh1 (by omega)
      refine r_vret rfl (dk_at dkX6_save 53 rfl) ?_
      have ei : i = 81 := by omega
      rw [ei] at hM
      exact ⟨hM, hF⟩
    · refine q_aload_n (pc' := 57) (dk_at dkX6_save 32 rfl) rfl rfl ?_
      refine r_getf (pc' := 60) fl_RX6_13 (dk_at dkX6_save 33 rfl) hM.obj rfl rfl ?_
      refine q_bipush (pc' := 62) (dk_at dkX6_save 34 rfl) (by decide +kernel) rfl ?_
      refine q_aload_n (pc' := 63) (dk_at dkX6_save 35 rfl) rfl rfl ?_
      refine r_getf (pc' := 66) fl_RX6_70 (dk_at dkX6_save 36 rfl) hM.obj rfl rfl ?_
      refine q_imul (pc' := 67) (dk_at dkX6_save 37 rfl) rfl ?_
      refine q_iload_n (pc' := 68) (dk_at dkX6_save 38 rfl) rfl rfl ?_
      refine q_iadd (pc' := 69) (dk_at dkX6_save 39 rfl) rfl ?_
      refine q_aload_n (pc' := 70) (dk_at dkX6_save 40 rfl) rfl rfl ?_
      refine r_getf (pc' := 73) fl_RX6_7 (dk_at dkX6_save 41 rfl) hM.obj rfl rfl ?_
      refine q_iload_n (pc' := 74) (dk_at dkX6_save 42 rfl) rfl rfl ?_
      refine r_iald (pc' := 75) (dk_at dkX6_save 43 rfl) hM.all i (by omega) (by omega) (by decide) rfl ?_
      refine r_iast (pc' := 76) (dk_at dkX6_save 44 rfl) hM.saved ((81 * sv) + i) (by omega) (by omega) (by decide) rfl (fun hh2 ehh2 => ?_)
      have hM := hM.w_saved ehh2
      have hF := hF.put ehh2 (by omega)
      refine q_iinc (pc' := 79) (L' := [some (vR m), some (vI ((i : Int) + 1))]) (dk_at dkX6_save 45 rfl) (by decide) rfl rfl rfl ?_
      rw [show ((i : Int) + 1) = ((i + 1 : Nat) : Int) by omega]
      refine q_goto (tgt := 50) (dk_at dkX6_save 46 rfl) rfl ?_
      rw [cp81_step] at hM
      exact ih (i + 1) _ (by omega) hM hF

set_option maxHeartbeats 4000000 in
set_option maxRecDepth 100000 in
theorem k_M_save {d n : Nat} {h : PH} {m : Nat} {A sd sq op ss es bo su se tx ba le fr un sF sR sT ad : Nat → Int} {th l0 bm tl nf ne nc : Int} {sv : Nat} {x : Nat → Snp} {c : Snp} (hko : SnOk c) (hks : ∀ i, i < sv → SnOk (x i)) (hsv : sv ≤ 4) (hA : MRP A c) (hSv : MSv sd sv x) (hM : isModel n h m A sd (sv : Int) th sq op l0 ss es bo su se bm tx tl ba le fr un nf ne nc sF sR sT ad) : CtrV mX6_save d [vR m] n h (fun h' => ∃ sd2, isModel n h' m A sd2 (pshN sv : Int) th sq op l0 ss es bo su se bm tx tl ba le fr un nf ne nc sF sR sT ad ∧ MSv sd2 (pshN sv) (pshX sv x c) ∧ Fr h h' m (m + 19)) := by
  have hF : Fr h h m (m + 19) := Fr.rf
  refine q_beginV (L := [some (vR m), none]) rfl ?_
  refine q_aload_n (pc' := 1) (dk_at dkX6_save 0 rfl) rfl rfl ?_
  refine r_getf (pc' := 4) fl_RX6_70 (dk_at dkX6_save 1 rfl) hM.obj rfl rfl ?_
  refine q_iconst (pc' := 5) (dk_at dkX6_save 2 rfl) rfl ?_
  refine q_icmp_ne (tgt := 48) (pc' := 8) (dk_at dkX6_save 3 rfl) rfl rfl (by omega) (by omega) (fun c5 => ?_) (fun c5 => ?_)
  · refine q_iconst (pc' := 49) (dk_at dkX6_save 27 rfl) rfl ?_
    refine q_istore_n (pc' := 50) (L' := [some (vR m), some (vI 0)]) (dk_at dkX6_save 28 rfl) (by decide) rfl rfl ?_
    refine QN_mono (l_save2M (sv := sv) (h := h) (by omega) 81 0 _ (by omega) (by rw [cp81_0]; exact hM) hF) (fun h' z => ?_)
    have hp := hSv.psh hko hks hsv hA
    rw [if_neg (by omega)] at hp
    refine ⟨_, ?_, hp, z.2⟩
    have z1 := z.1
    have e : ((pshN sv : Nat) : Int) = ((sv : Nat) : Int) + 1 := by unfold pshN; split <;> omega
    rw [e]
    exact z1
  · refine q_iconst (pc' := 9) (dk_at dkX6_save 4 rfl) rfl ?_
    refine q_istore_n (pc' := 10) (L' := [some (vR m), some (vI 0)]) (dk_at dkX6_save 5 rfl) (by decide) rfl rfl ?_
    refine l_save1M (sd := sd) (h := h) ?_ 243 0 _ (by omega) (by rw [shf_0]; exact hM) hF
    intro h1 i hM hF
    refine q_aload_n (pc' := 39) (dk_at dkX6_save 21 rfl) rfl rfl ?_
    refine q_dup (pc' := 40) (fun _ => rfl) (dk_at dkX6_save 22 rfl) rfl ?_
    refine r_getf (pc' := 43) fl_RX6_70 (dk_at dkX6_save 23 rfl) hM.obj rfl rfl ?_
    refine q_iconst (pc' := 44) (dk_at dkX6_save 24 rfl) rfl ?_
    refine q_isub (pc' := 45) (dk_at dkX6_save 25 rfl) rfl ?_
    refine r_putf (pc' := 48) fp_RX6_70 (dk_at dkX6_save 26 rfl) hM.obj (Nat.le_of_ble_eq_true rfl) (PT_int _) rfl (fun hh1 ehh1 => ?_)
    have hM := hM.w_obj ehh1
    have hF := hF.put ehh1 (by omega)
    refine q_iconst (pc' := 49) (dk_at dkX6_save 27 rfl) rfl ?_
    refine q_istore_n (pc' := 50) (L' := [some (vR m), some (vI 0)]) (dk_at dkX6_save 28 rfl) (by decide) rfl rfl ?_
    rw [show ((sv : Int) - 1) = ((3 : Nat) : Int) by omega] at hM
    refine QN_mono (l_save2M (sv := 3) (h := h) (by omega) 81 0 _ (by omega) (by rw [cp81_0]; exact hM) hF) (fun h' z => ?_)
    have hp := hSv.psh hko hks hsv hA
    rw [if_pos (by omega)] at hp
    refine ⟨_, ?_, hp, z.2⟩
    have z1 := z.1
    have e : ((pshN sv : Nat) : Int) = ((3 : Nat) : Int) + 1 := by unfold pshN; split <;> omega
    rw [e]
    exact z1

/-- what clears() relies on: beyond from and until nothing is told -/
def LInv (le fr un : Nat → Int) : Prop := ∀ k, k < 1024 → (0 ≤ fr k ∧ fr k ≤ 1200) ∧ (-1 ≤ un k ∧ un k ≤ 1199) ∧ ∀ t : Nat, t < 1200 → ((t : Int) < fr k ∨ un k < (t : Int)) → le (1200 * k + t) = 2000000000
/-- the reference object, having thrown th, in the state σ -/
def MOI (n : Nat) (h : PH) (m : Nat) (th : Int) (σ : CS) : Prop := ∃ (A sd sq op ss es bo su se tx1 ba le fr un sF sR sT ad : Nat → Int) (l0 bm nf ne nc : Int), isModel n h m A sd (σ.sv : Int) th sq op l0 ss es bo su se bm tx1 (σ.tl : Int) ba le fr un nf ne nc sF sR sT ad ∧ MRP A σ.cur ∧ MSv sd σ.sv σ.x ∧ (∀ i, i < σ.tl → tx1 i = σ.tx i) ∧ LInv le fr un
theorem MR.add {A A' : Nat → Int} {S : Shp} (h : MR A S) (hc : S.cnt < 8) {f t r u w : Int} (e0 : A' 0 = (S.cnt : Int) + 1) (e1 : A' (1 + 5 * S.cnt) = f ∧ A' (1 + 5 * S.cnt + 1) = t ∧ A' (1 + 5 * S.cnt + 2) = r ∧ A' (1 + 5 * S.cnt + 3) = u ∧ A' (1 + 5 * S.cnt + 4) = w) (e2 : ∀ k, 0 < k → (k < 1 + 5 * S.cnt ∨ 41 ≤ k) → A' k = A k) : MR A' (S.add f t r u w) := by
  refine ⟨e0, fun v j hv hj => ?_, fun q hq => by rw [e2 _ (by omega) (by omega)]; exact h.t0 hq, fun g q hg hq => by rw [e2 _ (by omega) (by omega)]; exact h.t hg hq, by rw [e2 _ (by omega) (by omega)]; exact h.w, by rw [e2 _ (by omega) (by omega)]; exact h.e, by rw [e2 _ (by omega) (by omega)]; exact h.o⟩
  have hj : j < S.cnt + 1 := hj
  show _ = addV S.V S.cnt f t r u w v j
  unfold addV
  by_cases z : j = S.cnt
  · rw [if_pos z, z]
    rcases (show v = 0 ∨ v = 1 ∨ v = 2 ∨ v = 3 ∨ v = 4 by omega) with rfl | rfl | rfl | rfl | rfl
    · exact e1.1
    · exact e1.2.1
    · exact e1.2.2.1
    · exact e1.2.2.2.1
    · exact e1.2.2.2.2
  · rw [if_neg z, e2 _ (by omega) (by omega)]
    exact h.v hv (by omega)
set_option maxHeartbeats 4000000 in
set_option maxRecDepth 100000 in
theorem k_M_addJob {d n : Nat} {h : PH} {m : Nat} {S : Shp} {P : PlS} {kn bs : Int} {sv tl : Nat} {x : Nat → Snp} {tx : Nat → Int} {th : Int} {f t r0 u w : Int} (hd : 30 ≤ d) (hI : MOI n h m th ((S, P, kn, bs), sv, x, tx, tl)) (hO : BOk ((S, P, kn, bs), sv, x, tx, tl)) (hi1 : IR f) (hi2 : IR t) (hi3 : IR r0) (hi4 : IR u) (hi5 : IR w) : CtrI mX6_addJob d [vR m, vI f, vI t, vI r0, vI u, vI w] n h (fun v h' => (aOk f t r0 u w ∧ S.cnt < 8 ∧ v = (S.cnt : Int) ∧ MOI n h' m 0 ((S.add f t r0 u w, P, 0, bs), pshN sv, (pshX sv x (S, P, kn, bs)), tx, tl) ∧ Fr h h' m (m + 19)) ∨ (¬ aOk f t r0 u w ∧ MOI n h' m 1 ((S, P, kn, bs), sv, x, tx, tl) ∧ Fr h h' m (m + 19)) ∨ (aOk f t r0 u w ∧ S.cnt = 8 ∧ MOI n h' m 2 ((S, P, kn, bs), sv, x, tx, tl) ∧ Fr h h' m (m + 19))) := by
  obtain ⟨A, sd, sq, op, ss, es, bo, su, se, tx1, ba, le, fr, un, sF, sR, sT, ad, l0, bm, nf, ne, nc, hM, ⟨hR, hP⟩, hSv, hTx, hL⟩ := hI
  have hM : isModel n h m A sd (sv : Int) th sq op l0 ss es bo su se bm tx1 (tl : Int) ba le fr un nf ne nc sF sR sT ad := hM
  have hR : MR A S := hR
  have hP : MP A P := hP
  have hSv : MSv sd sv x := hSv
  have hTx : ∀ i, i < tl → tx1 i = tx i := hTx
  obtain ⟨hko, hsv, hks, htl, htx⟩ := hO
  have hko : SnOk (S, P, kn, bs) := hko
  have hsv : sv ≤ 4 := hsv
  have hks : ∀ i, i < sv → SnOk (x i) := hks
  have htl : tl ≤ 60 := htl
  have htx : ∀ i, 0 ≤ tx i ∧ tx i ≤ 127 := htx
  have hk : Sok S := hko.1
  have hc8 := hk.c
  have hkp : Pok S.cnt P.od P.en P.bc P.sz := hko.2.1
  have hp8 : P.sz ≤ 8 := hkp.1
  have hpb : P.bc ≤ P.sz := hkp.2.1
  have hA0 := hR.c
  have hF : Fr h h m (m + 19) := Fr.rf
  refine q_beginI (L := [some (vR m), some (vI f), some (vI t), some (vI r0), some (vI u), some (vI w), none, none]) rfl ?_
  refine q_join 47 [some (vR m), some (vI f), some (vI t), some (vI r0), some (vI u), some (vI w), none, none] [] (fun jx => YN jx (aOk f t r0 u w)) (fun jx47 yare => ?_) (fun J47 => ?_)
  · have yar := yare.r
    refine q_istore (pc' := 49) (L' := [some (vR m), some (vI f), some (vI t), some (vI r0), some (vI u), some (vI w), some (vI jx47), none]) (dk_at dkX6_addJob 23 rfl) (by decide) rfl rfl ?_
    refine q_aload_n (pc' := 50) (dk_at dkX6_addJob 24 rfl) rfl rfl ?_
    refine q_iload (pc' := 52) (dk_at dkX6_addJob 25 rfl) rfl rfl ?_
    refine q_aload_n (pc' := 53) (dk_at dkX6_addJob 26 rfl) rfl rfl ?_
    refine r_getf (pc' := 56) fl_RX6_7 (dk_at dkX6_addJob 27 rfl) hM.obj rfl rfl ?_
    refine q_iconst (pc' := 57) (dk_at dkX6_addJob 28 rfl) rfl ?_
    refine r_iald (pc' := 58) (dk_at dkX6_addJob 29 rfl) hM.all 0 (by omega) (by omega) (by decide) rfl ?_
    refine q_bipush (pc' := 60) (dk_at dkX6_addJob 30 rfl) (by decide +kernel) rfl ?_
    refine q_icmp_ge (tgt := 67) (pc' := 63) (dk_at dkX6_addJob 31 rfl) rfl rfl (by omega) (by omega) (fun c60 => ?_) (fun c60 => ?_)
    · refine q_iconst (pc' := 68) (dk_at dkX6_addJob 34 rfl) rfl ?_
      refine r_cVI (pc' := 71) (As := [vI jx47, vI 0]) (S := []) cv_RX6_91 (dk_at dkX6_addJob 35 rfl) hM.obj rfl (k_M_goes (d := 0) (by omega) (by omega) hM) (by omega) (Nat.zero_le _) (Nat.zero_le _) rfl (Nat.le_of_ble_eq_true rfl) rfl (Nat.le_of_ble_eq_true rfl) rfl (fun xx1 hh2 hphh2 => ?_)
      obtain ⟨y68, hM, hGf⟩ := hphh2
      have hF := hF.tr hGf (by omega)
      have yr68 := y68.r
      refine q_if_ne (tgt := 76) (pc' := 74) (dk_at dkX6_addJob 36 rfl) rfl rfl (by omega) (fun c71 => ?_) (fun c71 => ?_)
      · refine q_aload_n (pc' := 77) (dk_at dkX6_addJob 39 rfl) rfl rfl ?_
        refine r_cVV (pc' := 80) (As := []) (S := []) cv_RX6_95 (dk_at dkX6_addJob 40 rfl) hM.obj rfl (k_M_save (d := 0) (c := (S, P, kn, bs)) hko hks hsv ⟨hR, hP⟩ hSv hM) (by omega) (Nat.zero_le _) (Nat.zero_le _) rfl (Nat.le_of_ble_eq_true rfl) rfl (Nat.le_of_ble_eq_true rfl) rfl (fun hh4 hphh4 => ?_)
        obtain ⟨sd2, hM, hSv, hGf⟩ := hphh4
        have hF := hF.tr hGf (by omega)
        refine q_iconst (pc' := 81) (dk_at dkX6_addJob 41 rfl) rfl ?_
        refine q_iconst (pc' := 82) (dk_at dkX6_addJob 42 rfl) rfl ?_
        refine q_aload_n (pc' := 83) (dk_at dkX6_addJob 43 rfl) rfl rfl ?_
        refine r_getf (pc' := 86) fl_RX6_7 (dk_at dkX6_addJob 44 rfl) hM.obj rfl rfl ?_
        refine q_iconst (pc' := 87) (dk_at dkX6_addJob 45 rfl) rfl ?_
        refine r_iald (pc' := 88) (dk_at dkX6_addJob 46 rfl) hM.all 0 (by omega) (by omega) (by decide) rfl ?_
        rw [hA0]
        refine q_imul (pc' := 89) (dk_at dkX6_addJob 47 rfl) rfl ?_
        refine q_iadd (pc' := 90) (dk_at dkX6_addJob 48 rfl) rfl ?_
        refine q_istore (pc' := 92) (L' := [some (vR m), some (vI f), some (vI t), some (vI r0), some (vI u), some (vI w), some (vI jx47), some (vI (1 + (5 * (S.cnt : Int))))]) (dk_at dkX6_addJob 49 rfl) (by decide) rfl rfl ?_
        refine q_aload_n (pc' := 93) (dk_at dkX6_addJob 50 rfl) rfl rfl ?_
        refine r_getf (pc' := 96) fl_RX6_7 (dk_at dkX6_addJob 51 rfl) hM.obj rfl rfl ?_
        refine q_iload (pc' := 98) (dk_at dkX6_addJob 52 rfl) rfl rfl ?_
        refine q_iload_n (pc' := 99) (dk_at dkX6_addJob 53 rfl) rfl rfl ?_
        refine r_iast (pc' := 100) (dk_at dkX6_addJob 54 rfl) hM.all (1 + (5 * S.cnt)) (by omega) (by omega) (by decide) rfl (fun hh5 ehh5 => ?_)
        have hM := hM.w_all ehh5
        have hF := hF.put ehh5 (by omega)
        refine q_aload_n (pc' := 101) (dk_at dkX6_addJob 55 rfl) rfl rfl ?_
        refine r_getf (pc' := 104) fl_RX6_7 (dk_at dkX6_addJob 56 rfl) hM.obj rfl rfl ?_
        refine q_iload (pc' := 106) (dk_at dkX6_addJob 57 rfl) rfl rfl ?_
        refine q_iconst (pc' := 107) (dk_at dkX6_addJob 58 rfl) rfl ?_
        refine q_iadd (pc' := 108) (dk_at dkX6_addJob 59 rfl) rfl ?_
        refine q_iload_n (pc' := 109) (dk_at dkX6_addJob 60 rfl) rfl rfl ?_
        refine r_iast (pc' := 110) (dk_at dkX6_addJob 61 rfl) hM.all ((1 + (5 * S.cnt)) + 1) (by omega) (by omega) (by decide) rfl (fun hh6 ehh6 => ?_)
        have hM := hM.w_all ehh6
        have hF := hF.put ehh6 (by omega)
        refine q_aload_n (pc' := 111) (dk_at dkX6_addJob 62 rfl) rfl rfl ?_
        refine r_getf (pc' := 114) fl_RX6_7 (dk_at dkX6_addJob 63 rfl) hM.obj rfl rfl ?_
        refine q_iload (pc' := 116) (dk_at dkX6_addJob 64 rfl) rfl rfl ?_
        refine q_iconst (pc' := 117) (dk_at dkX6_addJob 65 rfl) rfl ?_
        refine q_iadd (pc' := 118) (dk_at dkX6_addJob 66 rfl) rfl ?_
        refine q_iload_n (pc' := 119) (dk_at dkX6_addJob 67 rfl) rfl rfl ?_
        refine r_iast (pc' := 120) (dk_at dkX6_addJob 68 rfl) hM.all ((1 + (5 * S.cnt)) + 2) (by omega) (by omega) (by decide) rfl (fun hh7 ehh7 => ?_)
        have hM := hM.w_all ehh7
        have hF := hF.put ehh7 (by omega)
        refine q_aload_n (pc' := 121) (dk_at dkX6_addJob 69 rfl) rfl rfl ?_
        refine r_getf (pc' := 124) fl_RX6_7 (dk_at dkX6_addJob 70 rfl) hM.obj rfl rfl ?_
        refine q_iload (pc' := 126) (dk_at dkX6_addJob 71 rfl) rfl rfl ?_
        refine q_iconst (pc' := 127) (dk_at dkX6_addJob 72 rfl) rfl ?_
        refine q_iadd (pc' := 128) (dk_at dkX6_addJob 73 rfl) rfl ?_
        refine q_iload (pc' := 130) (dk_at dkX6_addJob 74 rfl) rfl rfl ?_
        refine r_iast (pc' := 131) (dk_at dkX6_addJob 75 rfl) hM.all ((1 + (5 * S.cnt)) + 3) (by omega) (by omega) (by decide) rfl (fun hh8 ehh8 => ?_)
        have hM := hM.w_all ehh8
        have hF := hF.put ehh8 (by omega)
        refine q_aload_n (pc' := 132) (dk_at dkX6_addJob 76 rfl) rfl rfl ?_
        refine r_getf (pc' := 135) fl_RX6_7 (dk_at dkX6_addJob 77 rfl) hM.obj rfl rfl ?_
        refine q_iload (pc' := 137) (dk_at dkX6_addJob 78 rfl) rfl rfl ?_
        refine q_iconst (pc' := 138) (dk_at dkX6_addJob 79 rfl) rfl ?_
        refine q_iadd (pc' := 139) (dk_at dkX6_addJob 80 rfl) rfl ?_
        refine q_iload (pc' := 141) (dk_at dkX6_addJob 81 rfl) rfl rfl ?_
        refine r_iast (pc' := 142) (dk_at dkX6_addJob 82 rfl) hM.all ((1 + (5 * S.cnt)) + 4) (by omega) (by omega) (by decide) rfl (fun hh9 ehh9 => ?_)
        have hM := hM.w_all ehh9
        have hF := hF.put ehh9 (by omega)
        refine q_aload_n (pc' := 143) (dk_at dkX6_addJob 83 rfl) rfl rfl ?_
        refine r_getf (pc' := 146) fl_RX6_7 (dk_at dkX6_addJob 84 rfl) hM.obj rfl rfl ?_
        refine q_iconst (pc' := 147) (dk_at dkX6_addJob 85 rfl) rfl ?_
        refine q_dup2 (pc' := 148) (fun _ => rfl) (fun _ => rfl) (dk_at dkX6_addJob 86 rfl) rfl ?_
        refine r_iald (pc' := 149) (dk_at dkX6_addJob 87 rfl) hM.all 0 (by omega) (by omega) (by decide) rfl ?_
        refine q_iconst (pc' := 150) (dk_at dkX6_addJob 88 rfl) rfl ?_
        refine q_iadd (pc' := 151) (dk_at dkX6_addJob 89 rfl) rfl ?_
        refine r_iast (pc' := 152) (dk_at dkX6_addJob 90 rfl) hM.all 0 (by omega) (by omega) (by decide) rfl (fun hh10 ehh10 => ?_)
        have hM := hM.w_all ehh10
        have hF := hF.put ehh10 (by omega)
        refine q_aload_n (pc' := 153) (dk_at dkX6_addJob 91 rfl) rfl rfl ?_
        refine r_getf (pc' := 156) fl_RX6_7 (dk_at dkX6_addJob 92 rfl) hM.obj rfl rfl ?_
        refine q_iconst (pc' := 157) (dk_at dkX6_addJob 93 rfl) rfl ?_
        refine r_iald (pc' := 158) (dk_at dkX6_addJob 94 rfl) hM.all 0 (by omega) (by omega) (by decide) rfl ?_
        refine q_iconst (pc' := 159) (dk_at dkX6_addJob 95 rfl) rfl ?_
        refine q_isub (pc' := 160) (dk_at dkX6_addJob 96 rfl) rfl ?_
        refine r_iret rfl (dk_at dkX6_addJob 97 rfl) ?_
        have yy := y68.t (by omega)
        exfalso
        omega
      · refine q_iconst (pc' := 75) (dk_at dkX6_addJob 37 rfl) rfl ?_
        refine r_iret rfl (dk_at dkX6_addJob 38 rfl) ?_
        by_cases z : jx47 = 0
        · rw [if_pos z] at hM
          exact Or.inr (Or.inl ⟨yare.f z, ⟨_, _, _, _, _, _, _, _, _, _, _, _, _, _, _, _, _, _, _, _, _, _, _, hM, ⟨hR, hP⟩, hSv, hTx, hL⟩, hF⟩)
        · rw [if_neg z, if_pos (by have := y68.f (by omega); omega)] at hM
          exact Or.inr (Or.inr ⟨yare.t z, by have := y68.f (by omega); have := yare.r; omega, ⟨_, _, _, _, _, _, _, _, _, _, _, _, _, _, _, _, _, _, _, _, _, _, _, hM, ⟨hR, hP⟩, hSv, hTx, hL⟩, hF⟩)
    · refine q_iconst (pc' := 64) (dk_at dkX6_addJob 32 rfl) rfl ?_
      refine q_goto (tgt := 68) (dk_at dkX6_addJob 33 rfl) rfl ?_
      refine r_cVI (pc' := 71) (As := [vI jx47, vI 1]) (S := []) cv_RX6_91 (dk_at dkX6_addJob 35 rfl) hM.obj rfl (k_M_goes (d := 0) (by omega) (by omega) hM) (by omega) (Nat.zero_le _) (Nat.zero_le _) rfl (Nat.le_of_ble_eq_true rfl) rfl (Nat.le_of_ble_eq_true rfl) rfl (fun xx11 hh12 hphh12 => ?_)
      obtain ⟨y68, hM, hGf⟩ := hphh12
      have hF := hF.tr hGf (by omega)
      have yr68 := y68.r
      refine q_if_ne (tgt := 76) (pc' := 74) (dk_at dkX6_addJob 36 rfl) rfl rfl (by omega) (fun c71 => ?_) (fun c71 => ?_)
      · refine q_aload_n (pc' := 77) (dk_at dkX6_addJob 39 rfl) rfl rfl ?_
        refine r_cVV (pc' := 80) (As := []) (S := []) cv_RX6_95 (dk_at dkX6_addJob 40 rfl) hM.obj rfl (k_M_save (d := 0) (c := (S, P, kn, bs)) hko hks hsv ⟨hR, hP⟩ hSv hM) (by omega) (Nat.zero_le _) (Nat.zero_le _) rfl (Nat.le_of_ble_eq_true rfl) rfl (Nat.le_of_ble_eq_true rfl) rfl (fun hh14 hphh14 => ?_)
        obtain ⟨sd2, hM, hSv, hGf⟩ := hphh14
        have hF := hF.tr hGf (by omega)
        refine q_iconst (pc' := 81) (dk_at dkX6_addJob 41 rfl) rfl ?_
        refine q_iconst (pc' := 82) (dk_at dkX6_addJob 42 rfl) rfl ?_
        refine q_aload_n (pc' := 83) (dk_at dkX6_addJob 43 rfl) rfl rfl ?_
        refine r_getf (pc' := 86) fl_RX6_7 (dk_at dkX6_addJob 44 rfl) hM.obj rfl rfl ?_
        refine q_iconst (pc' := 87) (dk_at dkX6_addJob 45 rfl) rfl ?_
        refine r_iald (pc' := 88) (dk_at dkX6_addJob 46 rfl) hM.all 0 (by omega) (by omega) (by decide) rfl ?_
        rw [hA0]
        refine q_imul (pc' := 89) (dk_at dkX6_addJob 47 rfl) rfl ?_
        refine q_iadd (pc' := 90) (dk_at dkX6_addJob 48 rfl) rfl ?_
        refine q_istore (pc' := 92) (L' := [some (vR m), some (vI f), some (vI t), some (vI r0), some (vI u), some (vI w), some (vI jx47), some (vI (1 + (5 * (S.cnt : Int))))]) (dk_at dkX6_addJob 49 rfl) (by decide) rfl rfl ?_
        refine q_aload_n (pc' := 93) (dk_at dkX6_addJob 50 rfl) rfl rfl ?_
        refine r_getf (pc' := 96) fl_RX6_7 (dk_at dkX6_addJob 51 rfl) hM.obj rfl rfl ?_
        refine q_iload (pc' := 98) (dk_at dkX6_addJob 52 rfl) rfl rfl ?_
        refine q_iload_n (pc' := 99) (dk_at dkX6_addJob 53 rfl) rfl rfl ?_
        refine r_iast (pc' := 100) (dk_at dkX6_addJob 54 rfl) hM.all (1 + (5 * S.cnt)) (by omega) (by omega) (by decide) rfl (fun hh15 ehh15 => ?_)
        have hM := hM.w_all ehh15
        have hF := hF.put ehh15 (by omega)
        refine q_aload_n (pc' := 101) (dk_at dkX6_addJob 55 rfl) rfl rfl ?_
        refine r_getf (pc' := 104) fl_RX6_7 (dk_at dkX6_addJob 56 rfl) hM.obj rfl rfl ?_
        refine q_iload (pc' := 106) (dk_at dkX6_addJob 57 rfl) rfl rfl ?_
        refine q_iconst (pc' := 107) (dk_at dkX6_addJob 58 rfl) rfl ?_
        refine q_iadd (pc' := 108) (dk_at dkX6_addJob 59 rfl) rfl ?_
        refine q_iload_n (pc' := 109) (dk_at dkX6_addJob 60 rfl) rfl rfl ?_
        refine r_iast (pc' := 110) (dk_at dkX6_addJob 61 rfl) hM.all ((1 + (5 * S.cnt)) + 1) (by omega) (by omega) (by decide) rfl (fun hh16 ehh16 => ?_)
        have hM := hM.w_all ehh16
        have hF := hF.put ehh16 (by omega)
        refine q_aload_n (pc' := 111) (dk_at dkX6_addJob 62 rfl) rfl rfl ?_
        refine r_getf (pc' := 114) fl_RX6_7 (dk_at dkX6_addJob 63 rfl) hM.obj rfl rfl ?_
        refine q_iload (pc' := 116) (dk_at dkX6_addJob 64 rfl) rfl rfl ?_
        refine q_iconst (pc' := 117) (dk_at dkX6_addJob 65 rfl) rfl ?_
        refine q_iadd (pc' := 118) (dk_at dkX6_addJob 66 rfl) rfl ?_
        refine q_iload_n (pc' := 119) (dk_at dkX6_addJob 67 rfl) rfl rfl ?_
        refine r_iast (pc' := 120) (dk_at dkX6_addJob 68 rfl) hM.all ((1 + (5 * S.cnt)) + 2) (by omega) (by omega) (by decide) rfl (fun hh17 ehh17 => ?_)
        have hM := hM.w_all ehh17
        have hF := hF.put ehh17 (by omega)
        refine q_aload_n (pc' := 121) (dk_at dkX6_addJob 69 rfl) rfl rfl ?_
        refine r_getf (pc' := 124) fl_RX6_7 (dk_at dkX6_addJob 70 rfl) hM.obj rfl rfl ?_
        refine q_iload (pc' := 126) (dk_at dkX6_addJob 71 rfl) rfl rfl ?_
        refine q_iconst (pc' := 127) (dk_at dkX6_addJob 72 rfl) rfl ?_
        refine q_iadd (pc' := 128) (dk_at dkX6_addJob 73 rfl) rfl ?_
        refine q_iload (pc' := 130) (dk_at dkX6_addJob 74 rfl) rfl rfl ?_
        refine r_iast (pc' := 131) (dk_at dkX6_addJob 75 rfl) hM.all ((1 + (5 * S.cnt)) + 3) (by omega) (by omega) (by decide) rfl (fun hh18 ehh18 => ?_)
        have hM := hM.w_all ehh18
        have hF := hF.put ehh18 (by omega)
        refine q_aload_n (pc' := 132) (dk_at dkX6_addJob 76 rfl) rfl rfl ?_
        refine r_getf (pc' := 135) fl_RX6_7 (dk_at dkX6_addJob 77 rfl) hM.obj rfl rfl ?_
        refine q_iload (pc' := 137) (dk_at dkX6_addJob 78 rfl) rfl rfl ?_
        refine q_iconst (pc' := 138) (dk_at dkX6_addJob 79 rfl) rfl ?_
        refine q_iadd (pc' := 139) (dk_at dkX6_addJob 80 rfl) rfl ?_
        refine q_iload (pc' := 141) (dk_at dkX6_addJob 81 rfl) rfl rfl ?_
        refine r_iast (pc' := 142) (dk_at dkX6_addJob 82 rfl) hM.all ((1 + (5 * S.cnt)) + 4) (by omega) (by omega) (by decide) rfl (fun hh19 ehh19 => ?_)
        have hM := hM.w_all ehh19
        have hF := hF.put ehh19 (by omega)
        refine q_aload_n (pc' := 143) (dk_at dkX6_addJob 83 rfl) rfl rfl ?_
        refine r_getf (pc' := 146) fl_RX6_7 (dk_at dkX6_addJob 84 rfl) hM.obj rfl rfl ?_
        refine q_iconst (pc' := 147) (dk_at dkX6_addJob 85 rfl) rfl ?_
        refine q_dup2 (pc' := 148) (fun _ => rfl) (fun _ => rfl) (dk_at dkX6_addJob 86 rfl) rfl ?_
        refine r_iald (pc' := 149) (dk_at dkX6_addJob 87 rfl) hM.all 0 (by omega) (by omega) (by decide) rfl ?_
        refine q_iconst (pc' := 150) (dk_at dkX6_addJob 88 rfl) rfl ?_
        refine q_iadd (pc' := 151) (dk_at dkX6_addJob 89 rfl) rfl ?_
        refine r_iast (pc' := 152) (dk_at dkX6_addJob 90 rfl) hM.all 0 (by omega) (by omega) (by decide) rfl (fun hh20 ehh20 => ?_)
        have hM := hM.w_all ehh20
        have hF := hF.put ehh20 (by omega)
        refine q_aload_n (pc' := 153) (dk_at dkX6_addJob 91 rfl) rfl rfl ?_
        refine r_getf (pc' := 156) fl_RX6_7 (dk_at dkX6_addJob 92 rfl) hM.obj rfl rfl ?_
        refine q_iconst (pc' := 157) (dk_at dkX6_addJob 93 rfl) rfl ?_
        refine r_iald (pc' := 158) (dk_at dkX6_addJob 94 rfl) hM.all 0 (by omega) (by omega) (by decide) rfl ?_
        refine q_iconst (pc' := 159) (dk_at dkX6_addJob 95 rfl) rfl ?_
        refine q_isub (pc' := 160) (dk_at dkX6_addJob 96 rfl) rfl ?_
        refine r_iret rfl (dk_at dkX6_addJob 97 rfl) ?_
        have yy := y68.t (by omega)
        rw [if_neg (by omega), if_neg (by omega)] at hM
        refine Or.inl ⟨yare.t (by omega), by omega, ?_, ⟨_, _, _, _, _, _, _, _, _, _, _, _, _, _, _, _, _, _, _, _, _, _, _, hM, ⟨hR.add (by omega) ?_ ?_ ?_, hP.cong ?_ hp8⟩, hSv, hTx, hL⟩, hF⟩
        · repeat (first | rw [upz_at (by omega)] | rw [upz_ne (by omega)])
          omega
        · repeat (first | rw [upz_at (by omega)] | rw [upz_ne (by omega)])
          omega
        · refine ⟨?_, ?_, ?_, ?_, ?_⟩ <;> (repeat (first | rw [upz_at (by omega)] | rw [upz_ne (by omega)]))
        · intro k k1 k2
          repeat (first | rw [upz_at (by omega)] | rw [upz_ne (by omega)])
        · intro k k1 k2
          repeat (first | rw [upz_at (by omega)] | rw [upz_ne (by omega)])
      · refine q_iconst (pc' := 75) (dk_at dkX6_addJob 37 rfl) rfl ?_
        refine r_iret rfl (dk_at dkX6_addJob 38 rfl) ?_
        by_cases z : jx47 = 0
        · rw [if_pos z] at hM
          exact Or.inr (Or.inl ⟨yare.f z, ⟨_, _, _, _, _, _, _, _, _, _, _, _, _, _, _, _, _, _, _, _, _, _, _, hM, ⟨hR, hP⟩, hSv, hTx, hL⟩, hF⟩)
        · rw [if_neg z, if_pos (by have := y68.f (by omega); omega)] at hM
          exact Or.inr (Or.inr ⟨yare.t z, by have := y68.f (by omega); have := yare.r; omega, ⟨_, _, _, _, _, _, _, _, _, _, _, _, _, _, _, _, _, _, _, _, _, _, _, hM, ⟨hR, hP⟩, hSv, hTx, hL⟩, hF⟩)
  refine q_iconst (pc' := 1) (dk_at dkX6_addJob 0 rfl) rfl ?_
  refine q_iload_n (pc' := 2) (dk_at dkX6_addJob 1 rfl) rfl rfl ?_
  refine r_cSI (pc' := 5) (As := [vI 0, vI f]) (S := []) cs_RX6_87 (dk_at dkX6_addJob 2 rfl) (k_M_isValue (d := 1) (w := 0) (v := f) (by omega) (by omega) (by omega)) (by omega) (Nat.zero_le _) (Nat.zero_le _) rfl (Nat.le_of_ble_eq_true rfl) rfl (Nat.le_of_ble_eq_true rfl) rfl (fun xx21 hh22 hphh22 => ?_)
  obtain ⟨qq23, y2⟩ := hphh22
  rw [qq23]
  have yr2 := y2.r
  refine q_if_eq (tgt := 46) (pc' := 8) (dk_at dkX6_addJob 3 rfl) rfl rfl (by omega) (fun c5 => ?_) (fun c5 => ?_)
  · refine q_iconst (pc' := 47) (dk_at dkX6_addJob 22 rfl) rfl ?_
    exact J47 _ (Or.inr ⟨rfl, fun z => y2.f c5 z.1⟩)
  · refine q_iconst (pc' := 9) (dk_at dkX6_addJob 4 rfl) rfl ?_
    refine q_iload_n (pc' := 10) (dk_at dkX6_addJob 5 rfl) rfl rfl ?_
    refine r_cSI (pc' := 13) (As := [vI 1, vI t]) (S := []) cs_RX6_87 (dk_at dkX6_addJob 6 rfl) (k_M_isValue (d := 1) (w := 1) (v := t) (by omega) (by omega) (by omega)) (by omega) (Nat.zero_le _) (Nat.zero_le _) rfl (Nat.le_of_ble_eq_true rfl) rfl (Nat.le_of_ble_eq_true rfl) rfl (fun xx24 hh25 hphh25 => ?_)
    obtain ⟨qq26, y10⟩ := hphh25
    rw [qq26]
    have yr10 := y10.r
    refine q_if_eq (tgt := 46) (pc' := 16) (dk_at dkX6_addJob 7 rfl) rfl rfl (by omega) (fun c13 => ?_) (fun c13 => ?_)
    · refine q_iconst (pc' := 47) (dk_at dkX6_addJob 22 rfl) rfl ?_
      exact J47 _ (Or.inr ⟨rfl, fun z => y10.f c13 z.2.1⟩)
    · refine q_iconst (pc' := 17) (dk_at dkX6_addJob 8 rfl) rfl ?_
      refine q_iload_n (pc' := 18) (dk_at dkX6_addJob 9 rfl) rfl rfl ?_
      refine r_cSI (pc' := 21) (As := [vI 2, vI r0]) (S := []) cs_RX6_87 (dk_at dkX6_addJob 10 rfl) (k_M_isValue (d := 1) (w := 2) (v := r0) (by omega) (by omega) (by omega)) (by omega) (Nat.zero_le _) (Nat.zero_le _) rfl (Nat.le_of_ble_eq_true rfl) rfl (Nat.le_of_ble_eq_true rfl) rfl (fun xx27 hh28 hphh28 => ?_)
      obtain ⟨qq29, y18⟩ := hphh28
      rw [qq29]
      have yr18 := y18.r
      refine q_if_eq (tgt := 46) (pc' := 24) (dk_at dkX6_addJob 11 rfl) rfl rfl (by omega) (fun c21 => ?_) (fun c21 => ?_)
      · refine q_iconst (pc' := 47) (dk_at dkX6_addJob 22 rfl) rfl ?_
        exact J47 _ (Or.inr ⟨rfl, fun z => y18.f c21 z.2.2.1⟩)
      · refine q_iconst (pc' := 25) (dk_at dkX6_addJob 12 rfl) rfl ?_
        refine q_iload (pc' := 27) (dk_at dkX6_addJob 13 rfl) rfl rfl ?_
        refine r_cSI (pc' := 30) (As := [vI 3, vI u]) (S := []) cs_RX6_87 (dk_at dkX6_addJob 14 rfl) (k_M_isValue (d := 1) (w := 3) (v := u) (by omega) (by omega) (by omega)) (by omega) (Nat.zero_le _) (Nat.zero_le _) rfl (Nat.le_of_ble_eq_true rfl) rfl (Nat.le_of_ble_eq_true rfl) rfl (fun xx30 hh31 hphh31 => ?_)
        obtain ⟨qq32, y27⟩ := hphh31
        rw [qq32]
        have yr27 := y27.r
        refine q_if_eq (tgt := 46) (pc' := 33) (dk_at dkX6_addJob 15 rfl) rfl rfl (by omega) (fun c30 => ?_) (fun c30 => ?_)
        · refine q_iconst (pc' := 47) (dk_at dkX6_addJob 22 rfl) rfl ?_
          exact J47 _ (Or.inr ⟨rfl, fun z => y27.f c30 z.2.2.2.1⟩)
        · refine q_iconst (pc' := 34) (dk_at dkX6_addJob 16 rfl) rfl ?_
          refine q_iload (pc' := 36) (dk_at dkX6_addJob 17 rfl) rfl rfl ?_
          refine r_cSI (pc' := 39) (As := [vI 4, vI w]) (S := []) cs_RX6_87 (dk_at dkX6_addJob 18 rfl) (k_M_isValue (d := 1) (w := 4) (v := w) (by omega) (by omega) (by omega)) (by omega) (Nat.zero_le _) (Nat.zero_le _) rfl (Nat.le_of_ble_eq_true rfl) rfl (Nat.le_of_ble_eq_true rfl) rfl (fun xx33 hh34 hphh34 => ?_)
          obtain ⟨qq35, y36⟩ := hphh34
          rw [qq35]
          have yr36 := y36.r
          refine q_if_eq (tgt := 46) (pc' := 42) (dk_at dkX6_addJob 19 rfl) rfl rfl (by omega) (fun c39 => ?_) (fun c39 => ?_)
          · refine q_iconst (pc' := 47) (dk_at dkX6_addJob 22 rfl) rfl ?_
            exact J47 _ (Or.inr ⟨rfl, fun z => y36.f c39 z.2.2.2.2⟩)
          · refine q_iconst (pc' := 43) (dk_at dkX6_addJob 20 rfl) rfl ?_
            refine q_goto (tgt := 47) (dk_at dkX6_addJob 21 rfl) rfl ?_
            exact J47 _ (Or.inl ⟨rfl, y2.t c5, y10.t c13, y18.t c21, y27.t c30, y36.t c39⟩)
