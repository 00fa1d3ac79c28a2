/-! BatchMachineModel: runs, and what it tells of the kept schedule -/
theorem bix_lt {c : Nat} {o e : Nat → Int} {bc m : Nat} (h : Pok c o e bc m) {b k : Nat} (hb : b ≤ bc) (hk : k < bgn e b) : bix e k bc < b := by
  have h1 := h.bmono bc hb (Nat.le_refl _)
  rw [h.2.2.2.2.1] at h1
  obtain ⟨b', b1, b2, b3, b4⟩ := bix_in h (k := k) (by omega)
  rw [b2]
  by_cases z : b' < b
  · exact z
  · have := h.bmono b' (show b ≤ b' by omega) (by omega)
    omega
theorem stK_first {S : Shp} (hk : Sok S) {P : PlS} (hp : PlOk S.cnt P) {b : Nat} (hb : b < P.bc) : stK S P.od P.en P.bc (bgn P.en b) = f0B S P.od P.en b := by
  have hp' : Pok S.cnt P.od P.en P.bc P.sz := hp
  have hn := hp'.nx hb
  have h1 := (stK_at (S := S) hp hb (i := 0) (by omega)).2.1
  rw [Nat.add_zero] at h1
  rw [h1]
  show max (f0B S P.od P.en b) _ = _
  have h2 : S.V 2 (jb P.od (bgn P.en b)) ≤ rdy S P.od (bgn P.en b) (P.en b).toNat := by
    unfold rdy
    split
    · exact rdW_ge (S := S) (o := P.od) (be := bgn P.en b) _ 0 (Nat.zero_le _)
    · exact Int.le_refl _
  have h3 : rdy S P.od (bgn P.en b) (P.en b).toNat ≤ f0B S P.od P.en b := by unfold f0B fst0; omega
  omega
theorem cmK_last {S : Shp} {P : PlS} (hp : PlOk S.cnt P) {b : Nat} (hb : b < P.bc) : cmK S P.od P.en P.bc (bgn P.en (b + 1) - 1) = frB S P.od P.en (b + 1) := by
  have hp' : Pok S.cnt P.od P.en P.bc P.sz := hp
  have hn := hp'.nx hb
  obtain ⟨i, ei⟩ : ∃ i, bgn P.en (b + 1) - 1 = bgn P.en b + i := ⟨bgn P.en (b + 1) - 1 - bgn P.en b, by omega⟩
  rw [ei, (stK_at (S := S) hp hb (i := i) (by omega)).2.2]
  split
  · rfl
  · show _ = fre S P.od (bgn P.en b) (P.en b).toNat (lstB S P.od P.en b) (frB S P.od P.en b)
    unfold fre f0B
    rw [show (P.en b).toNat - bgn P.en b = i + 1 by rw [← bgn_succ]; omega]
theorem stS_r {S : Shp} (hT : Tok S.T) {o e : Nat → Int} : ∀ b, 0 ≤ stS S o e b ∧ stS S o e b ≤ 60 * b
  | 0 => by unfold stS; omega
  | b + 1 => by
    have h1 := stS_r hT (o := o) (e := e) b
    have h2 : 0 ≤ stp S o (bgn e b) (lstB S o e b) ∧ stp S o (bgn e b) (lstB S o e b) ≤ 60 := hT _ _
    unfold stS
    omega
theorem tsum_r {S : Shp} (hV : Vok S.V) {o : Nat → Int} {be : Nat} : ∀ i, 0 ≤ tsum S o be i ∧ tsum S o be i ≤ 50 * i
  | 0 => by unfold tsum; omega
  | i + 1 => by
    have h1 := tsum_r hV (o := o) (be := be) i
    have h2 := hV 1 (jb o (be + i))
    unfold tsum
    omega
theorem pvS_one {S : Shp} {P : PlS} (hp : PlOk S.cnt P) {w j : Nat} {v v' : Int} (h : pvS S P w j v) (h' : pvS S P w j v') : v = v' := by
  have hp' : Pok S.cnt P.od P.en P.bc P.sz := hp
  rcases h with ⟨k, k1, k2, k3⟩ | ⟨k1, k2⟩ <;> rcases h' with ⟨q, q1, q2, q3⟩ | ⟨q1, q2⟩
  · have : k = q := by
      have a := hp'.2.2.1 k
      have b := hp'.2.2.1 q
      exact hp'.2.2.2.2.2.2 k q k1 q1 (by unfold jb at k2 q2; omega)
    rw [k3, q3, this]
  · exact absurd k2 (q1 k k1)
  · exact absurd q2 (k1 q q1)
  · rw [k2, q2]
set_option maxHeartbeats 4000000 in
set_option maxRecDepth 100000 in
theorem l_runs2 {d n : Nat} {h : PH} {m : Nat} {S : Shp} {P : PlS} {A sd sq op tx ba le fr un sF sR sT ad : Nat → Int} {sm th tl nf ne nc : Int} {ss1 es1 bo1 su1 se1 : Nat → Int} {h0 : PH} {x1 x2 : Int} {x4 : Int} (hp8 : P.sz ≤ 8) (hd : 3 ≤ d) (hR : MR A S) (hk : Sok S) (hkp : Pok S.cnt P.od P.en P.bc P.sz) (hS : SqP sq op P) (hM : isModel n h m A sd sm th sq op (P.sz : Int) ss1 es1 bo1 su1 se1 (P.bc : Int) tx tl ba le fr un nf ne nc sF sR sT ad) (hT : TmM S P P.bc ss1 es1 bo1 su1 se1) (hF : Fr h0 h m (m + 19)) : ∀ (c : Nat) (i : Nat), (i + c = P.sz) → QN mX6_runs d (FI n (fun x h' => x = cvS S P ∧ ∃ ss1 es1 bo1 su1 se1, isModel n h' m A sd sm th sq op (P.sz : Int) ss1 es1 bo1 su1 se1 (P.bc : Int) tx tl ba le fr un nf ne nc sF sR sT ad ∧ TmM S P P.bc ss1 es1 bo1 su1 se1 ∧ Fr h0 h' m (m + 19))) 68 [some (vR m), some (vI x1), some (vI x2), some (vI (cstM S P i)), some (vI x4), some (vI (i : Int))] [] n h := by
  intro c
  induction c with
  | zero =>
    intro i hc
    refine q_iload (pc' := 70) (dk_at dkX6_runs 40 rfl) rfl rfl ?_
    refine q_aload_n (pc' := 71) (dk_at dkX6_runs 41 rfl) rfl rfl ?_
    refine r_getf (pc' := 74) fl_RX6_119 (dk_at dkX6_runs 42 rfl) hM.obj rfl rfl ?_
    refine q_icmp_ge (tgt := 107) (pc' := 77) (dk_at dkX6_runs 43 rfl) rfl rfl (by omega) (by omega) (fun c74 => ?_) (fun c74 => ?_)
    · refine q_aload_n (pc' := 108) (dk_at dkX6_runs 60 rfl) rfl rfl ?_
      refine r_getf (pc' := 111) fl_RX6_119 (dk_at dkX6_runs 61 rfl) hM.obj rfl rfl ?_
      refine q_if_ne (tgt := 118) (pc' := 114) (dk_at dkX6_runs 62 rfl) rfl rfl (by omega) (fun c111 => ?_) (fun c111 => ?_)
      · refine q_iload_n (pc' := 119) (dk_at dkX6_runs 65 rfl) rfl rfl ?_
        refine r_iret rfl (dk_at dkX6_runs 66 rfl) ?_
        have ei : i = P.sz := by omega
        refine ⟨?_, ss1, es1, bo1, su1, se1, hM, hT, hF⟩
        rw [← cstM_cost]
        rw [if_neg (by omega), ei]
      · refine q_iconst (pc' := 115) (dk_at dkX6_runs 63 rfl) rfl ?_
        refine q_goto (tgt := 119) (dk_at dkX6_runs 64 rfl) rfl ?_
        refine r_iret rfl (dk_at dkX6_runs 66 rfl) ?_
        have ei : i = P.sz := by omega
        refine ⟨?_, ss1, es1, bo1, su1, se1, hM, hT, hF⟩
        rw [← cstM_cost]
        rw [if_pos (by omega)]
    · exfalso
      omega
  | succ c ih =>
    intro i hc
    refine q_iload (pc' := 70) (dk_at dkX6_runs 40 rfl) rfl rfl ?_
    refine q_aload_n (pc' := 71) (dk_at dkX6_runs 41 rfl) rfl rfl ?_
    refine r_getf (pc' := 74) fl_RX6_119 (dk_at dkX6_runs 42 rfl) hM.obj rfl rfl ?_
    refine q_icmp_ge (tgt := 107) (pc' := 77) (dk_at dkX6_runs 43 rfl) rfl rfl (by omega) (by omega) (fun c74 => ?_) (fun c74 => ?_)
    · refine q_aload_n (pc' := 108) (dk_at dkX6_runs 60 rfl) rfl rfl ?_
      refine r_getf (pc' := 111) fl_RX6_119 (dk_at dkX6_runs 61 rfl) hM.obj rfl rfl ?_
      refine q_if_ne (tgt := 118) (pc' := 114) (dk_at dkX6_runs 62 rfl) rfl rfl (by omega) (fun c111 => ?_) (fun c111 => ?_)
      · refine q_iload_n (pc' := 119) (dk_at dkX6_runs 65 rfl) rfl rfl ?_
        refine r_iret rfl (dk_at dkX6_runs 66 rfl) ?_
        have ei : i = P.sz := by omega
        refine ⟨?_, ss1, es1, bo1, su1, se1, hM, hT, hF⟩
        rw [← cstM_cost]
        rw [if_neg (by omega), ei]
      · refine q_iconst (pc' := 115) (dk_at dkX6_runs 63 rfl) rfl ?_
        refine q_goto (tgt := 119) (dk_at dkX6_runs 64 rfl) rfl ?_
        refine r_iret rfl (dk_at dkX6_runs 66 rfl) ?_
        have ei : i = P.sz := by omega
        refine ⟨?_, ss1, es1, bo1, su1, se1, hM, hT, hF⟩
        rw [← cstM_cost]
        rw [if_pos (by omega)]
    · have hcr := cstM_r hk hkp i (by omega)
      have hcm := cmK_2k hk hkp (k := i) (by omega)
      have hpn := pen_2k hk (jb P.od i) hcm
      refine q_aload_n (pc' := 78) (dk_at dkX6_runs 44 rfl) rfl rfl ?_
      refine q_iload_n (pc' := 79) (dk_at dkX6_runs 45 rfl) rfl rfl ?_
      refine q_aload_n (pc' := 80) (dk_at dkX6_runs 46 rfl) rfl rfl ?_
      refine q_aload_n (pc' := 81) (dk_at dkX6_runs 47 rfl) rfl rfl ?_
      refine r_getf (pc' := 84) fl_RX6_16 (dk_at dkX6_runs 48 rfl) hM.obj rfl rfl ?_
      refine q_iload (pc' := 86) (dk_at dkX6_runs 49 rfl) rfl rfl ?_
      refine r_iald (pc' := 87) (dk_at dkX6_runs 50 rfl) hM.sequence i (by omega) (by omega) (by decide) rfl ?_
      refine q_aload_n (pc' := 88) (dk_at dkX6_runs 51 rfl) rfl rfl ?_
      refine r_getf (pc' := 91) fl_RX6_25 (dk_at dkX6_runs 52 rfl) hM.obj rfl rfl ?_
      refine q_iload (pc' := 93) (dk_at dkX6_runs 53 rfl) rfl rfl ?_
      refine r_iald (pc' := 94) (dk_at dkX6_runs 54 rfl) hM.ends i (by omega) (by omega) (by decide) rfl ?_
      have hti := hT.1 i (by rw [hkp.2.2.2.2.1]; omega)
      rw [hti.2.1]
      refine r_cVI (pc' := 97) (As := [vI (sq i), vI (cmK S P.od P.en P.bc i)]) (S := [vI (cstM S P i), vR m]) cv_RX6_137 (dk_at dkX6_runs 55 rfl) hM.obj rfl (k_M_costOf (d := 1) (j := jb P.od i) (by omega) hR hk (sqj hkp hS.1 i (by omega)).2 (sqj hkp hS.1 i (by omega)).1 (by omega) hM) (by omega) (Nat.zero_le _) (Nat.zero_le _) rfl (Nat.le_of_ble_eq_true rfl) rfl (Nat.le_of_ble_eq_true rfl) rfl (fun xx1 hh2 hphh2 => ?_)
      obtain ⟨qq3, rfl⟩ := hphh2
      rw [qq3]
      refine r_cVI (pc' := 100) (As := [vI (cstM S P i), vI (pen S (jb P.od i) (cmK S P.od P.en P.bc i))]) (S := []) cv_RX6_140 (dk_at dkX6_runs 56 rfl) hM.obj rfl (k_M_with (d := 1) (by omega) hR hk (by omega) (by omega) hM) (by omega) (Nat.zero_le _) (Nat.zero_le _) rfl (Nat.le_of_ble_eq_true rfl) rfl (Nat.le_of_ble_eq_true rfl) rfl (fun xx4 hh5 hphh5 => ?_)
      obtain ⟨qq6, rfl⟩ := hphh5
      rw [qq6, cstM_step hk hkp (by omega)]
      refine q_istore_n (pc' := 101) (L' := [some (vR m), some (vI x1), some (vI x2), some (vI (cstM S P (i + 1))), some (vI x4), some (vI (i : Int))]) (dk_at dkX6_runs 57 rfl) (by decide) rfl rfl ?_
      refine q_iinc (pc' := 104) (L' := [some (vR m), some (vI x1), some (vI x2), some (vI (cstM S P (i + 1))), some (vI x4), some (vI ((i : Int) + 1))]) (dk_at dkX6_runs 58 rfl) (by decide) rfl rfl rfl ?_
      rw [show ((i : Int) + 1) = ((i + 1 : Nat) : Int) by omega]
      refine q_goto (tgt := 68) (dk_at dkX6_runs 59 rfl) rfl ?_
      exact ih (i + 1) (by omega)

set_option maxHeartbeats 4000000 in
set_option maxRecDepth 100000 in
theorem l_runs1 {d n : Nat} {h : PH} {m : Nat} {S : Shp} {P : PlS} {A sd sq op tx ba le fr un sF sR sT ad : Nat → Int} {sm th tl nf ne nc : Int} (hd : 3 ≤ d) (hR : MR A S) (hk : Sok S) (hkp : Pok S.cnt P.od P.en P.bc P.sz) (hS : SqP sq op P) (hp8 : P.sz ≤ 8) : ∀ (c : Nat) (b : Nat) (ss1 es1 bo1 su1 se1 : Nat → Int) (h1 : PH) (x5 : Option PV), (b + c = P.bc) → (TmM S P b ss1 es1 bo1 su1 se1) → (isModel n h1 m A sd sm th sq op (P.sz : Int) ss1 es1 bo1 su1 se1 (b : Int) tx tl ba le fr un nf ne nc sF sR sT ad) → (Fr h h1 m (m + 19)) → QN mX6_runs d (FI n (fun x h' => x = cvS S P ∧ ∃ ss1 es1 bo1 su1 se1, isModel n h' m A sd sm th sq op (P.sz : Int) ss1 es1 bo1 su1 se1 (P.bc : Int) tx tl ba le fr un nf ne nc sF sR sT ad ∧ TmM S P P.bc ss1 es1 bo1 su1 se1 ∧ Fr h h' m (m + 19))) 17 [some (vR m), some (vI (frB S P.od P.en b)), some (vI (lstB S P.od P.en b)), some (vI (neuM S)), some (vI ((bgn P.en b : Nat) : Int)), x5] [] n h1 := by
  intro c
  induction c with
  | zero =>
    intro b ss1 es1 bo1 su1 se1 h1 x5 hc hT hM hF
    have hbs : bgn P.en P.bc = P.sz := hkp.2.2.2.2.1
    have hbb := hkp.bmono (b := b) P.bc (by omega) (Nat.le_refl _)
    have hbz : b = P.bc → bgn P.en b = P.sz := fun e => by rw [e]; exact hbs
    have hbn : b < P.bc → bgn P.en b < P.sz := fun e => by have := hkp.nx e; omega
    refine q_iload (pc' := 19) (dk_at dkX6_runs 12 rfl) rfl rfl ?_
    refine q_aload_n (pc' := 20) (dk_at dkX6_runs 13 rfl) rfl rfl ?_
    refine r_getf (pc' := 23) fl_RX6_119 (dk_at dkX6_runs 14 rfl) hM.obj rfl rfl ?_
    refine q_icmp_ge (tgt := 65) (pc' := 26) (dk_at dkX6_runs 15 rfl) rfl rfl (by omega) (by omega) (fun c23 => ?_) (fun c23 => ?_)
    · refine q_iconst (pc' := 66) (dk_at dkX6_runs 38 rfl) rfl ?_
      refine q_istore (pc' := 68) (L' := [some (vR m), some (vI (frB S P.od P.en b)), some (vI (lstB S P.od P.en b)), some (vI (neuM S)), some (vI ((bgn P.en b : Nat) : Int)), some (vI 0)]) (dk_at dkX6_runs 39 rfl) (by decide) rfl rfl ?_
      first | (exfalso; omega; done) | (obtain rfl : b = P.bc := (by omega); exact l_runs2 (h0 := h) hkp.1 hd hR hk hkp hS hM hT hF P.sz 0 (by omega))
    · exfalso
      omega
  | succ c ih =>
    intro b ss1 es1 bo1 su1 se1 h1 x5 hc hT hM hF
    have hbs : bgn P.en P.bc = P.sz := hkp.2.2.2.2.1
    have hbb := hkp.bmono (b := b) P.bc (by omega) (Nat.le_refl _)
    have hbz : b = P.bc → bgn P.en b = P.sz := fun e => by rw [e]; exact hbs
    have hbn : b < P.bc → bgn P.en b < P.sz := fun e => by have := hkp.nx e; omega
    refine q_iload (pc' := 19) (dk_at dkX6_runs 12 rfl) rfl rfl ?_
    refine q_aload_n (pc' := 20) (dk_at dkX6_runs 13 rfl) rfl rfl ?_
    refine r_getf (pc' := 23) fl_RX6_119 (dk_at dkX6_runs 14 rfl) hM.obj rfl rfl ?_
    refine q_icmp_ge (tgt := 65) (pc' := 26) (dk_at dkX6_runs 15 rfl) rfl rfl (by omega) (by omega) (fun c23 => ?_) (fun c23 => ?_)
    · refine q_iconst (pc' := 66) (dk_at dkX6_runs 38 rfl) rfl ?_
      refine q_istore (pc' := 68) (L' := [some (vR m), some (vI (frB S P.od P.en b)), some (vI (lstB S P.od P.en b)), some (vI (neuM S)), some (vI ((bgn P.en b : Nat) : Int)), some (vI 0)]) (dk_at dkX6_runs 39 rfl) (by decide) rfl rfl ?_
      first | (exfalso; omega; done) | (obtain rfl : b = P.bc := (by omega); exact l_runs2 (h0 := h) hkp.1 hd hR hk hkp hS hM hT hF P.sz 0 (by omega))
    · refine q_aload_n (pc' := 27) (dk_at dkX6_runs 16 rfl) rfl rfl ?_
      refine q_iload (pc' := 29) (dk_at dkX6_runs 17 rfl) rfl rfl ?_
      refine r_cVI (pc' := 32) (As := [vI ((bgn P.en b : Nat) : Int)]) (S := []) cv_RX6_129 (dk_at dkX6_runs 18 rfl) hM.obj rfl (k_M_endOfBatch (d := 0) (b := b) hkp hS (by omega) hM) (by omega) (Nat.zero_le _) (Nat.zero_le _) rfl (Nat.le_of_ble_eq_true rfl) rfl (Nat.le_of_ble_eq_true rfl) rfl (fun xx1 hh2 hphh2 => ?_)
      obtain ⟨qq3, rfl⟩ := hphh2
      rw [qq3]
      refine q_istore (pc' := 34) (L' := [some (vR m), some (vI (frB S P.od P.en b)), some (vI (lstB S P.od P.en b)), some (vI (neuM S)), some (vI ((bgn P.en b : Nat) : Int)), some (vI ((bgn P.en (b + 1) : Nat) : Int))]) (dk_at dkX6_runs 19 rfl) (by decide) rfl rfl ?_
      refine q_aload_n (pc' := 35) (dk_at dkX6_runs 20 rfl) rfl rfl ?_
      refine q_iload (pc' := 37) (dk_at dkX6_runs 21 rfl) rfl rfl ?_
      refine q_iload (pc' := 39) (dk_at dkX6_runs 22 rfl) rfl rfl ?_
      refine q_iload_n (pc' := 40) (dk_at dkX6_runs 23 rfl) rfl rfl ?_
      refine q_iload_n (pc' := 41) (dk_at dkX6_runs 24 rfl) rfl rfl ?_
      refine r_cVI (pc' := 44) (As := [vI ((bgn P.en b : Nat) : Int), vI ((bgn P.en (b + 1) : Nat) : Int), vI (frB S P.od P.en b), vI (lstB S P.od P.en b)]) (S := []) cv_RX6_133 (dk_at dkX6_runs 25 rfl) hM.obj rfl (k_M_runsBatch (d := 2) (b := b) (by omega) hR hk hkp hS.1 (by omega) hT hM) (by omega) (Nat.zero_le _) (Nat.zero_le _) rfl (Nat.le_of_ble_eq_true rfl) rfl (Nat.le_of_ble_eq_true rfl) rfl (fun xx4 hh5 hphh5 => ?_)
      obtain ⟨hx, ss2, es2, bo2, su2, se2, hM, hT2, hGf⟩ := hphh5
      have hF := hF.tr hGf (by omega)
      subst hx
      refine q_istore_n (pc' := 45) (L' := [some (vR m), some (vI (frB S P.od P.en (b + 1))), some (vI (lstB S P.od P.en b)), some (vI (neuM S)), some (vI ((bgn P.en b : Nat) : Int)), some (vI ((bgn P.en (b + 1) : Nat) : Int))]) (dk_at dkX6_runs 26 rfl) (by decide) rfl rfl ?_
      refine q_aload_n (pc' := 46) (dk_at dkX6_runs 27 rfl) rfl rfl ?_
      refine q_aload_n (pc' := 47) (dk_at dkX6_runs 28 rfl) rfl rfl ?_
      refine r_getf (pc' := 50) fl_RX6_16 (dk_at dkX6_runs 29 rfl) hM.obj rfl rfl ?_
      refine q_iload (pc' := 52) (dk_at dkX6_runs 30 rfl) rfl rfl ?_
      refine r_iald (pc' := 53) (dk_at dkX6_runs 31 rfl) hM.sequence (bgn P.en b) (by omega) (by omega) (by decide) rfl ?_
      refine q_iconst (pc' := 54) (dk_at dkX6_runs 32 rfl) rfl ?_
      refine r_cVI (pc' := 57) (As := [vI (sq (bgn P.en b)), vI 0]) (S := []) cv_RX6_104 (dk_at dkX6_runs 33 rfl) hM.obj rfl (k_M_of (d := 0) (j := jb P.od (bgn P.en b)) (w := 0) hR hk.c (sqj hkp hS.1 (bgn P.en b) (by omega)).2 rfl (sqj hkp hS.1 (bgn P.en b) (by omega)).1 (by omega) hM) (by omega) (Nat.zero_le _) (Nat.zero_le _) rfl (Nat.le_of_ble_eq_true rfl) rfl (Nat.le_of_ble_eq_true rfl) rfl (fun xx6 hh7 hphh7 => ?_)
      obtain ⟨qq8, rfl⟩ := hphh7
      rw [qq8]
      have bb9 := hk.v 0 (jb P.od (bgn P.en b))
      refine q_istore_n (pc' := 58) (L' := [some (vR m), some (vI (frB S P.od P.en (b + 1))), some (vI (S.V 0 (jb P.od (bgn P.en b)))), some (vI (neuM S)), some (vI ((bgn P.en b : Nat) : Int)), some (vI ((bgn P.en (b + 1) : Nat) : Int))]) (dk_at dkX6_runs 34 rfl) (by decide) rfl rfl ?_
      refine q_iload (pc' := 60) (dk_at dkX6_runs 35 rfl) rfl rfl ?_
      refine q_istore (pc' := 62) (L' := [some (vR m), some (vI (frB S P.od P.en (b + 1))), some (vI (S.V 0 (jb P.od (bgn P.en b)))), some (vI (neuM S)), some (vI ((bgn P.en (b + 1) : Nat) : Int)), some (vI ((bgn P.en (b + 1) : Nat) : Int))]) (dk_at dkX6_runs 36 rfl) (by decide) rfl rfl ?_
      refine q_goto (tgt := 17) (dk_at dkX6_runs 37 rfl) rfl ?_
      rw [show S.V 0 (jb P.od (bgn P.en b)) = lstB S P.od P.en (b + 1) from (if_pos (by omega)).symm]
      exact ih (b + 1) _ _ _ _ _ _ _ (by omega) hT2 hM hF

set_option maxHeartbeats 4000000 in
set_option maxRecDepth 100000 in
theorem k_M_runs {d n : Nat} {h : PH} {m : Nat} {A sd sq op ss es bo su se tx ba le fr un sF sR sT ad : Nat → Int} {sm th bm tl nf ne nc : Int} {S : Shp} {P : PlS} (hd : 3 ≤ d) (hR : MR A S) (hk : Sok S) (hkp : Pok S.cnt P.od P.en P.bc P.sz) (hS : SqP sq op P) (hM : isModel n h m A sd sm th sq op (P.sz : Int) ss es bo su se bm tx tl ba le fr un nf ne nc sF sR sT ad) : CtrI mX6_runs d [vR m] n h (fun x h' => x = cvS S P ∧ ∃ ss1 es1 bo1 su1 se1, isModel n h' m A sd sm th sq op (P.sz : Int) ss1 es1 bo1 su1 se1 (P.bc : Int) tx tl ba le fr un nf ne nc sF sR sT ad ∧ TmM S P P.bc ss1 es1 bo1 su1 se1 ∧ Fr h h' m (m + 19)) := by
  have hF : Fr h h m (m + 19) := Fr.rf
  refine q_beginI (L := [some (vR m), none, none, none, none, none]) rfl ?_
  refine q_iconst (pc' := 1) (dk_at dkX6_runs 0 rfl) rfl ?_
  refine q_istore_n (pc' := 2) (L' := [some (vR m), some (vI 0), none, none, none, none]) (dk_at dkX6_runs 1 rfl) (by decide) rfl rfl ?_
  refine q_iconst (pc' := 3) (dk_at dkX6_runs 2 rfl) rfl ?_
  refine q_istore_n (pc' := 4) (L' := [some (vR m), some (vI 0), some (vI (-1)), none, none, none]) (dk_at dkX6_runs 3 rfl) (by decide) rfl rfl ?_
  refine q_aload_n (pc' := 5) (dk_at dkX6_runs 4 rfl) rfl rfl ?_
  refine r_cVI (pc' := 8) (As := []) (S := []) cv_RX6_122 (dk_at dkX6_runs 5 rfl) hM.obj rfl (k_M_costOfNothing (d := 1) (by omega) hR hk hM) (by omega) (Nat.zero_le _) (Nat.zero_le _) rfl (Nat.le_of_ble_eq_true rfl) rfl (Nat.le_of_ble_eq_true rfl) rfl (fun xx1 hh2 hphh2 => ?_)
  obtain ⟨qq3, rfl⟩ := hphh2
  rw [qq3]
  refine q_istore_n (pc' := 9) (L' := [some (vR m), some (vI 0), some (vI (-1)), some (vI (neuM S)), none, none]) (dk_at dkX6_runs 6 rfl) (by decide) rfl rfl ?_
  refine q_aload_n (pc' := 10) (dk_at dkX6_runs 7 rfl) rfl rfl ?_
  refine q_iconst (pc' := 11) (dk_at dkX6_runs 8 rfl) rfl ?_
  refine r_putf (pc' := 14) fp_RX6_126 (dk_at dkX6_runs 9 rfl) hM.obj (Nat.le_of_ble_eq_true rfl) (PT_int _) rfl (fun hh4 ehh4 => ?_)
  have hM := hM.w_obj ehh4
  have hF := hF.put ehh4 (by omega)
  refine q_iconst (pc' := 15) (dk_at dkX6_runs 10 rfl) rfl ?_
  refine q_istore (pc' := 17) (L' := [some (vR m), some (vI 0), some (vI (-1)), some (vI (neuM S)), some (vI 0), none]) (dk_at dkX6_runs 11 rfl) (by decide) rfl rfl ?_
  exact l_runs1 (h := h) hd hR hk hkp hS hkp.1 P.bc 0 _ _ _ _ _ _ none (by omega) ⟨fun k hk => absurd hk (Nat.not_lt_zero _), fun b hb => absurd hb (Nat.not_lt_zero _)⟩ hM hF

set_option maxHeartbeats 4000000 in
set_option maxRecDepth 100000 in
theorem k_M_runsKept {d n : Nat} {h : PH} {m : Nat} {A sd sq op ss es bo su se tx ba le fr un sF sR sT ad : Nat → Int} {sm th l0 bm tl nf ne nc : Int} {S : Shp} {P : PlS} (hd : 4 ≤ d) (hR : MR A S) (hk : Sok S) (hkp : Pok S.cnt P.od P.en P.bc P.sz) (hP : MP A P) (hM : isModel n h m A sd sm th sq op l0 ss es bo su se bm tx tl ba le fr un nf ne nc sF sR sT ad) : CtrI mX6_runsKept d [vR m] n h (fun x h' => x = cvS S P ∧ ∃ sq1 op1 ss1 es1 bo1 su1 se1, isModel n h' m A sd sm th sq1 op1 (P.sz : Int) ss1 es1 bo1 su1 se1 (P.bc : Int) tx tl ba le fr un nf ne nc sF sR sT ad ∧ SqP sq1 op1 P ∧ TmM S P P.bc ss1 es1 bo1 su1 se1 ∧ Fr h h' m (m + 19)) := by
  have hF : Fr h h m (m + 19) := Fr.rf
  refine q_beginI (L := [some (vR m)]) rfl ?_
  refine q_aload_n (pc' := 1) (dk_at dkX6_runsKept 0 rfl) rfl rfl ?_
  refine r_cVV (pc' := 4) (As := []) (S := []) cv_RX6_179 (dk_at dkX6_runsKept 1 rfl) hM.obj rfl (k_M_takesKept (d := 0) hkp.1 hP hM) (by omega) (Nat.zero_le _) (Nat.zero_le _) rfl (Nat.le_of_ble_eq_true rfl) rfl (Nat.le_of_ble_eq_true rfl) rfl (fun hh2 hphh2 => ?_)
  obtain ⟨sq1, op1, hM, hS, hGf⟩ := hphh2
  have hF := hF.tr hGf (by omega)
  refine q_aload_n (pc' := 5) (dk_at dkX6_runsKept 2 rfl) rfl rfl ?_
  refine r_cVI (pc' := 8) (As := []) (S := []) cv_RX6_163 (dk_at dkX6_runsKept 3 rfl) hM.obj rfl (k_M_runs (d := 3) (by omega) hR hk hkp hS hM) (by omega) (Nat.zero_le _) (Nat.zero_le _) rfl (Nat.le_of_ble_eq_true rfl) rfl (Nat.le_of_ble_eq_true rfl) rfl (fun xx3 hh4 hphh4 => ?_)
  obtain ⟨hx, ss1, es1, bo1, su1, se1, hM, hT, hGf⟩ := hphh4
  have hF := hF.tr hGf (by omega)
  refine r_iret rfl (dk_at dkX6_runsKept 4 rfl) ?_
  exact ⟨hx, sq1, op1, ss1, es1, bo1, su1, se1, hM, hS, hT, hF⟩

set_option maxHeartbeats 4000000 in
set_option maxRecDepth 100000 in
theorem l_fst {d n : Nat} {h : PH} {m : Nat} {S : Shp} {P : PlS} {b : Nat} {A sd sq op ss es bo su se tx ba le fr un sF sR sT ad : Nat → Int} {sm th l0 bm tl nf ne nc : Int} (hp8 : P.sz ≤ 8) (hpb : P.bc ≤ P.sz) (hnx : bgn P.en b < bgn P.en (b + 1) ∧ bgn P.en (b + 1) ≤ P.sz ∧ ((bgn P.en (b + 1) : Nat) : Int) = P.en b) (hkp : Pok S.cnt P.od P.en P.bc P.sz) (hT : TmM S P P.bc ss es bo su se) (hb : b < P.bc) (hM : isModel n h m A sd sm th sq op l0 ss es bo su se bm tx tl ba le fr un nf ne nc sF sR sT ad) : ∀ (c : Nat) (k : Nat), (k + c = bgn P.en b) → (k ≤ bgn P.en b) → QN mX6_firstOf d (FI n (fun x h' => h' = h ∧ x = ((bgn P.en b : Nat) : Int))) 2 [some (vR m), some (vI (b : Int)), some (vI (k : Int))] [] n h := by
  intro c
  induction c with
  | zero =>
    intro k hc hk1
    refine q_aload_n (pc' := 3) (dk_at dkX6_firstOf 2 rfl) rfl rfl ?_
    refine r_getf (pc' := 6) fl_RX6_28 (dk_at dkX6_firstOf 3 rfl) hM.obj rfl rfl ?_
    refine q_iload_n (pc' := 7) (dk_at dkX6_firstOf 4 rfl) rfl rfl ?_
    refine r_iald (pc' := 8) (dk_at dkX6_firstOf 5 rfl) hM.batchOf k (by omega) (by omega) (by decide) rfl ?_
    have hbk := (hT.1 k (by rw [hkp.2.2.2.2.1]; omega)).2.2
    have hbl := bix_le (e := P.en) k P.bc
    have hbq : k = bgn P.en b → bix P.en k P.bc = b := fun z => bix_at hkp (b := b) (k := k) (by omega) (by omega) P.bc (by omega) (Nat.le_refl _)
    rw [hbk]
    refine q_iload_n (pc' := 9) (dk_at dkX6_firstOf 6 rfl) rfl rfl ?_
    refine q_icmp_eq (tgt := 18) (pc' := 12) (dk_at dkX6_firstOf 7 rfl) rfl rfl (by omega) (by omega) (fun c9 => ?_) (fun c9 => ?_)
    · refine q_iload_n (pc' := 19) (dk_at dkX6_firstOf 10 rfl) rfl rfl ?_
      refine r_iret rfl (dk_at dkX6_firstOf 11 rfl) ?_
      refine ⟨rfl, ?_⟩
      by_cases z : k = bgn P.en b
      · rw [z]
      · exfalso
        have := bix_lt hkp (b := b) (k := k) (by omega) (by omega)
        omega
    · exfalso
      omega
  | succ c ih =>
    intro k hc hk1
    refine q_aload_n (pc' := 3) (dk_at dkX6_firstOf 2 rfl) rfl rfl ?_
    refine r_getf (pc' := 6) fl_RX6_28 (dk_at dkX6_firstOf 3 rfl) hM.obj rfl rfl ?_
    refine q_iload_n (pc' := 7) (dk_at dkX6_firstOf 4 rfl) rfl rfl ?_
    refine r_iald (pc' := 8) (dk_at dkX6_firstOf 5 rfl) hM.batchOf k (by omega) (by omega) (by decide) rfl ?_
    have hbk := (hT.1 k (by rw [hkp.2.2.2.2.1]; omega)).2.2
    have hbl := bix_le (e := P.en) k P.bc
    have hbq : k = bgn P.en b → bix P.en k P.bc = b := fun z => bix_at hkp (b := b) (k := k) (by omega) (by omega) P.bc (by omega) (Nat.le_refl _)
    rw [hbk]
    refine q_iload_n (pc' := 9) (dk_at dkX6_firstOf 6 rfl) rfl rfl ?_
    refine q_icmp_eq (tgt := 18) (pc' := 12) (dk_at dkX6_firstOf 7 rfl) rfl rfl (by omega) (by omega) (fun c9 => ?_) (fun c9 => ?_)
    · refine q_iload_n (pc' := 19) (dk_at dkX6_firstOf 10 rfl) rfl rfl ?_
      refine r_iret rfl (dk_at dkX6_firstOf 11 rfl) ?_
      refine ⟨rfl, ?_⟩
      by_cases z : k = bgn P.en b
      · rw [z]
      · exfalso
        have := bix_lt hkp (b := b) (k := k) (by omega) (by omega)
        omega
    · refine q_iinc (pc' := 15) (L' := [some (vR m), some (vI (b : Int)), some (vI ((k : Int) + 1))]) (dk_at dkX6_firstOf 8 rfl) (by decide) rfl rfl rfl ?_
      rw [show ((k : Int) + 1) = ((k + 1 : Nat) : Int) by omega]
      refine q_goto (tgt := 2) (dk_at dkX6_firstOf 9 rfl) rfl ?_
      exact ih (k + 1) (by omega) (by omega)

set_option maxHeartbeats 4000000 in
set_option maxRecDepth 100000 in
theorem k_M_firstOf {d n : Nat} {h : PH} {m : Nat} {A sd sq op ss es bo su se tx ba le fr un sF sR sT ad : Nat → Int} {sm th l0 bm tl nf ne nc : Int} {b : Nat} {S : Shp} {P : PlS} (hkp : Pok S.cnt P.od P.en P.bc P.sz) (hT : TmM S P P.bc ss es bo su se) (hb : b < P.bc) (hM : isModel n h m A sd sm th sq op l0 ss es bo su se bm tx tl ba le fr un nf ne nc sF sR sT ad) : CtrI mX6_firstOf d [vR m, vI (b : Int)] n h (fun x h' => h' = h ∧ x = ((bgn P.en b : Nat) : Int)) := by
  refine q_beginI (L := [some (vR m), some (vI (b : Int)), none]) rfl ?_
  refine q_iconst (pc' := 1) (dk_at dkX6_firstOf 0 rfl) rfl ?_
  refine q_istore_n (pc' := 2) (L' := [some (vR m), some (vI (b : Int)), some (vI 0)]) (dk_at dkX6_firstOf 1 rfl) (by decide) rfl rfl ?_
  exact l_fst hkp.1 hkp.2.1 (hkp.nx hb) hkp hT hb hM (bgn P.en b) 0 (by omega) (by omega)

set_option maxHeartbeats 4000000 in
set_option maxRecDepth 100000 in
theorem k_M_batchValue {d n : Nat} {h : PH} {m : Nat} {A sd sq op ss es bo su se tx ba le fr un sF sR sT ad : Nat → Int} {sm th bm tl nf ne nc : Int} {b w : Nat} {S : Shp} {P : PlS} {xw : Int} (hd : 1 ≤ d) (hR : MR A S) (hk : Sok S) (hkp : Pok S.cnt P.od P.en P.bc P.sz) (hS : SqP sq op P) (hT : TmM S P P.bc ss es bo su se) (hb : b < P.bc) (ew : xw = (w : Int)) (hw : w < 6) (hM : isModel n h m A sd sm th sq op (P.sz : Int) ss es bo su se bm tx tl ba le fr un nf ne nc sF sR sT ad) : CtrI mX6_batchValue d [vR m, vI (b : Int), vI xw] n h (fun x h' => h' = h ∧ x = bvS S P w b) := by
  have hp8 := hkp.1
  have hpb := hkp.2.1
  have hnx := hkp.nx hb
  refine q_beginI (L := [some (vR m), some (vI (b : Int)), some (vI xw), none, none]) rfl ?_
  refine q_aload_n (pc' := 1) (dk_at dkX6_batchValue 0 rfl) rfl rfl ?_
  refine q_iload_n (pc' := 2) (dk_at dkX6_batchValue 1 rfl) rfl rfl ?_
  refine r_cVI (pc' := 5) (As := [vI (b : Int)]) (S := []) cv_RX6_192 (dk_at dkX6_batchValue 2 rfl) hM.obj rfl (k_M_firstOf (d := 0) (b := b) hkp hT hb hM) (by omega) (Nat.zero_le _) (Nat.zero_le _) rfl (Nat.le_of_ble_eq_true rfl) rfl (Nat.le_of_ble_eq_true rfl) rfl (fun xx1 hh2 hphh2 => ?_)
  obtain ⟨qq3, rfl⟩ := hphh2
  rw [qq3]
  refine q_istore_n (pc' := 6) (L' := [some (vR m), some (vI (b : Int)), some (vI xw), some (vI ((bgn P.en b : Nat) : Int)), none]) (dk_at dkX6_batchValue 3 rfl) (by decide) rfl rfl ?_
  refine q_aload_n (pc' := 7) (dk_at dkX6_batchValue 4 rfl) rfl rfl ?_
  refine q_iload_n (pc' := 8) (dk_at dkX6_batchValue 5 rfl) rfl rfl ?_
  refine r_cVI (pc' := 11) (As := [vI ((bgn P.en b : Nat) : Int)]) (S := []) cv_RX6_129 (dk_at dkX6_batchValue 6 rfl) hM.obj rfl (k_M_endOfBatch (d := 0) (b := b) hkp hS hb hM) (by omega) (Nat.zero_le _) (Nat.zero_le _) rfl (Nat.le_of_ble_eq_true rfl) rfl (Nat.le_of_ble_eq_true rfl) rfl (fun xx4 hh5 hphh5 => ?_)
  obtain ⟨qq6, rfl⟩ := hphh5
  rw [qq6]
  refine q_istore (pc' := 13) (L' := [some (vR m), some (vI (b : Int)), some (vI xw), some (vI ((bgn P.en b : Nat) : Int)), some (vI ((bgn P.en (b + 1) : Nat) : Int))]) (dk_at dkX6_batchValue 7 rfl) (by decide) rfl rfl ?_
  refine q_iload_n (pc' := 14) (dk_at dkX6_batchValue 8 rfl) rfl rfl ?_
  rcases (show xw = 0 ∨ xw = 1 ∨ xw = 2 ∨ xw = 3 ∨ xw = 4 ∨ (xw < 0 ∨ 4 < xw) by omega) with q14 | q14 | q14 | q14 | q14 | q14
  · refine q_tableIn (tgt := 48) (dk_at dkX6_batchValue 9 rfl) (by omega) (by omega) (by omega) (by rw [q14]; rfl) rfl ?_
    refine q_aload_n (pc' := 49) (dk_at dkX6_batchValue 10 rfl) rfl rfl ?_
    refine q_aload_n (pc' := 50) (dk_at dkX6_batchValue 11 rfl) rfl rfl ?_
    refine r_getf (pc' := 53) fl_RX6_16 (dk_at dkX6_batchValue 12 rfl) hM.obj rfl rfl ?_
    refine q_iload_n (pc' := 54) (dk_at dkX6_batchValue 13 rfl) rfl rfl ?_
    refine r_iald (pc' := 55) (dk_at dkX6_batchValue 14 rfl) hM.sequence (bgn P.en b) (by omega) (by omega) (by decide) rfl ?_
    refine q_iconst (pc' := 56) (dk_at dkX6_batchValue 15 rfl) rfl ?_
    refine r_cVI (pc' := 59) (As := [vI (sq (bgn P.en b)), vI 0]) (S := []) cv_RX6_104 (dk_at dkX6_batchValue 16 rfl) hM.obj rfl (k_M_of (d := 0) (j := jb P.od (bgn P.en b)) (w := 0) hR hk.c (sqj hkp hS.1 (bgn P.en b) (by omega)).2 rfl (sqj hkp hS.1 (bgn P.en b) (by omega)).1 (by omega) hM) (by omega) (Nat.zero_le _) (Nat.zero_le _) rfl (Nat.le_of_ble_eq_true rfl) rfl (Nat.le_of_ble_eq_true rfl) rfl (fun xx7 hh8 hphh8 => ?_)
    obtain ⟨qq9, rfl⟩ := hphh8
    rw [qq9]
    have bb10 := hk.v 0 (jb P.od (bgn P.en b))
    refine r_iret rfl (dk_at dkX6_batchValue 17 rfl) ?_
    refine ⟨rfl, ?_⟩
    unfold bvS
    rcases (show w = 0 ∨ w = 1 ∨ w = 2 ∨ w = 3 ∨ w = 4 ∨ w = 5 by omega) with rfl | rfl | rfl | rfl | rfl | rfl <;> first | (exfalso; omega; done) | rfl | (show _ = P.en b - ((bgn P.en b : Nat) : Int); omega) | exact (hT.2 b hb).1 | exact (hT.2 b hb).2 | (show _ = f0B S P.od P.en b; rw [(hT.1 _ (by rw [hkp.2.2.2.2.1]; omega)).1]; exact stK_first hk hkp hb) | (show _ = frB S P.od P.en (b + 1); rw [(hT.1 _ (by rw [hkp.2.2.2.2.1]; omega)).2.1]; exact cmK_last hkp hb)
  · refine q_tableIn (tgt := 60) (dk_at dkX6_batchValue 9 rfl) (by omega) (by omega) (by omega) (by rw [q14]; rfl) rfl ?_
    refine q_iload (pc' := 62) (dk_at dkX6_batchValue 18 rfl) rfl rfl ?_
    refine q_iload_n (pc' := 63) (dk_at dkX6_batchValue 19 rfl) rfl rfl ?_
    refine q_isub (pc' := 64) (dk_at dkX6_batchValue 20 rfl) rfl ?_
    refine r_iret rfl (dk_at dkX6_batchValue 21 rfl) ?_
    refine ⟨rfl, ?_⟩
    unfold bvS
    rcases (show w = 0 ∨ w = 1 ∨ w = 2 ∨ w = 3 ∨ w = 4 ∨ w = 5 by omega) with rfl | rfl | rfl | rfl | rfl | rfl <;> first | (exfalso; omega; done) | rfl | (show _ = P.en b - ((bgn P.en b : Nat) : Int); omega) | exact (hT.2 b hb).1 | exact (hT.2 b hb).2 | (show _ = f0B S P.od P.en b; rw [(hT.1 _ (by rw [hkp.2.2.2.2.1]; omega)).1]; exact stK_first hk hkp hb) | (show _ = frB S P.od P.en (b + 1); rw [(hT.1 _ (by rw [hkp.2.2.2.2.1]; omega)).2.1]; exact cmK_last hkp hb)
  · refine q_tableIn (tgt := 65) (dk_at dkX6_batchValue 9 rfl) (by omega) (by omega) (by omega) (by rw [q14]; rfl) rfl ?_
    refine q_aload_n (pc' := 66) (dk_at dkX6_batchValue 22 rfl) rfl rfl ?_
    refine r_getf (pc' := 69) fl_RX6_31 (dk_at dkX6_batchValue 23 rfl) hM.obj rfl rfl ?_
    refine q_iload_n (pc' := 70) (dk_at dkX6_batchValue 24 rfl) rfl rfl ?_
    refine r_iald (pc' := 71) (dk_at dkX6_batchValue 25 rfl) hM.setupStart b (by omega) (by omega) (by decide) rfl ?_
    refine r_iret rfl (dk_at dkX6_batchValue 26 rfl) ?_
    refine ⟨rfl, ?_⟩
    unfold bvS
    rcases (show w = 0 ∨ w = 1 ∨ w = 2 ∨ w = 3 ∨ w = 4 ∨ w = 5 by omega) with rfl | rfl | rfl | rfl | rfl | rfl <;> first | (exfalso; omega; done) | rfl | (show _ = P.en b - ((bgn P.en b : Nat) : Int); omega) | exact (hT.2 b hb).1 | exact (hT.2 b hb).2 | (show _ = f0B S P.od P.en b; rw [(hT.1 _ (by rw [hkp.2.2.2.2.1]; omega)).1]; exact stK_first hk hkp hb) | (show _ = frB S P.od P.en (b + 1); rw [(hT.1 _ (by rw [hkp.2.2.2.2.1]; omega)).2.1]; exact cmK_last hkp hb)
  · refine q_tableIn (tgt := 72) (dk_at dkX6_batchValue 9 rfl) (by omega) (by omega) (by omega) (by rw [q14]; rfl) rfl ?_
    refine q_aload_n (pc' := 73) (dk_at dkX6_batchValue 27 rfl) rfl rfl ?_
    refine r_getf (pc' := 76) fl_RX6_34 (dk_at dkX6_batchValue 28 rfl) hM.obj rfl rfl ?_
    refine q_iload_n (pc' := 77) (dk_at dkX6_batchValue 29 rfl) rfl rfl ?_
    refine r_iald (pc' := 78) (dk_at dkX6_batchValue 30 rfl) hM.setupEnd b (by omega) (by omega) (by decide) rfl ?_
    refine r_iret rfl (dk_at dkX6_batchValue 31 rfl) ?_
    refine ⟨rfl, ?_⟩
    unfold bvS
    rcases (show w = 0 ∨ w = 1 ∨ w = 2 ∨ w = 3 ∨ w = 4 ∨ w = 5 by omega) with rfl | rfl | rfl | rfl | rfl | rfl <;> first | (exfalso; omega; done) | rfl | (show _ = P.en b - ((bgn P.en b : Nat) : Int); omega) | exact (hT.2 b hb).1 | exact (hT.2 b hb).2 | (show _ = f0B S P.od P.en b; rw [(hT.1 _ (by rw [hkp.2.2.2.2.1]; omega)).1]; exact stK_first hk hkp hb) | (show _ = frB S P.od P.en (b + 1); rw [(hT.1 _ (by rw [hkp.2.2.2.2.1]; omega)).2.1]; exact cmK_last hkp hb)
  · refine q_tableIn (tgt := 79) (dk_at dkX6_batchValue 9 rfl) (by omega) (by omega) (by omega) (by rw [q14]; rfl) rfl ?_
    refine q_aload_n (pc' := 80) (dk_at dkX6_batchValue 32 rfl) rfl rfl ?_
    refine r_getf (pc' := 83) fl_RX6_22 (dk_at dkX6_batchValue 33 rfl) hM.obj rfl rfl ?_
    refine q_iload_n (pc' := 84) (dk_at dkX6_batchValue 34 rfl) rfl rfl ?_
    refine r_iald (pc' := 85) (dk_at dkX6_batchValue 35 rfl) hM.starts (bgn P.en b) (by omega) (by omega) (by decide) rfl ?_
    refine r_iret rfl (dk_at dkX6_batchValue 36 rfl) ?_
    refine ⟨rfl, ?_⟩
    unfold bvS
    rcases (show w = 0 ∨ w = 1 ∨ w = 2 ∨ w = 3 ∨ w = 4 ∨ w = 5 by omega) with rfl | rfl | rfl | rfl | rfl | rfl <;> first | (exfalso; omega; done) | rfl | (show _ = P.en b - ((bgn P.en b : Nat) : Int); omega) | exact (hT.2 b hb).1 | exact (hT.2 b hb).2 | (show _ = f0B S P.od P.en b; rw [(hT.1 _ (by rw [hkp.2.2.2.2.1]; omega)).1]; exact stK_first hk hkp hb) | (show _ = frB S P.od P.en (b + 1); rw [(hT.1 _ (by rw [hkp.2.2.2.2.1]; omega)).2.1]; exact cmK_last hkp hb)
  · refine q_tableOut (tgt := 86) (dk_at dkX6_batchValue 9 rfl) (by omega) (by omega) rfl ?_
    refine q_aload_n (pc' := 87) (dk_at dkX6_batchValue 37 rfl) rfl rfl ?_
    refine r_getf (pc' := 90) fl_RX6_25 (dk_at dkX6_batchValue 38 rfl) hM.obj rfl rfl ?_
    refine q_iload (pc' := 92) (dk_at dkX6_batchValue 39 rfl) rfl rfl ?_
    refine q_iconst (pc' := 93) (dk_at dkX6_batchValue 40 rfl) rfl ?_
    refine q_isub (pc' := 94) (dk_at dkX6_batchValue 41 rfl) rfl ?_
    refine r_iald (pc' := 95) (dk_at dkX6_batchValue 42 rfl) hM.ends (bgn P.en (b + 1) - 1) (by omega) (by omega) (by decide) rfl ?_
    refine r_iret rfl (dk_at dkX6_batchValue 43 rfl) ?_
    refine ⟨rfl, ?_⟩
    unfold bvS
    rcases (show w = 0 ∨ w = 1 ∨ w = 2 ∨ w = 3 ∨ w = 4 ∨ w = 5 by omega) with rfl | rfl | rfl | rfl | rfl | rfl <;> first | (exfalso; omega; done) | rfl | (show _ = P.en b - ((bgn P.en b : Nat) : Int); omega) | exact (hT.2 b hb).1 | exact (hT.2 b hb).2 | (show _ = f0B S P.od P.en b; rw [(hT.1 _ (by rw [hkp.2.2.2.2.1]; omega)).1]; exact stK_first hk hkp hb) | (show _ = frB S P.od P.en (b + 1); rw [(hT.1 _ (by rw [hkp.2.2.2.2.1]; omega)).2.1]; exact cmK_last hkp hb)

theorem cvS_r {S : Shp} (hk : Sok S) {P : PlS} (hp : PlOk S.cnt P) : -2000000 ≤ cvS S P ∧ cvS S P ≤ 300000000 := by
  have h8 : P.sz ≤ 8 := hp.1
  have h1 := cstM_r hk hp P.sz (Nat.le_refl _)
  rw [← cstM_cost]
  split <;> omega
set_option maxHeartbeats 4000000 in
set_option maxRecDepth 100000 in
theorem k_M_batches {d n : Nat} {h : PH} {m : Nat} {S : Shp} {P : PlS} {kn bs : Int} {sv tl : Nat} {x : Nat → Snp} {tx : Nat → Int} {th : Int}  (hd : 30 ≤ d) (hI : MOI n h m th ((S, P, kn, bs), sv, x, tx, tl)) (hO : BOk ((S, P, kn, bs), sv, x, tx, tl))  : CtrI mX6_batches d [vR m] n h (fun v h' => v = (P.bc : Int) ∧ MOI n h' m 0 ((S, P, kn, bs), sv, x, tx, tl) ∧ Fr h h' m (m + 19)) := by
  obtain ⟨A, sd, sq, op, ss, es, bo, su, se, tx1, ba, le, fr, un, sF, sR, sT, ad, l0, bm, nf, ne, nc, hM, ⟨hR, hP⟩, hSv, hTx, hL⟩ := hI
  have hM : isModel n h m A sd (sv : Int) th sq op l0 ss es bo su se bm tx1 (tl : Int) ba le fr un nf ne nc sF sR sT ad := hM
  have hR : MR A S := hR
  have hP : MP A P := hP
  have hSv : MSv sd sv x := hSv
  have hTx : ∀ i, i < tl → tx1 i = tx i := hTx
  obtain ⟨hko, hsv, hks, htl, htx⟩ := hO
  have hko : SnOk (S, P, kn, bs) := hko
  have hsv : sv ≤ 4 := hsv
  have hks : ∀ i, i < sv → SnOk (x i) := hks
  have htl : tl ≤ 60 := htl
  have htx : ∀ i, 0 ≤ tx i ∧ tx i ≤ 127 := htx
  have hk : Sok S := hko.1
  have hc8 := hk.c
  have hkp : Pok S.cnt P.od P.en P.bc P.sz := hko.2.1
  have hp8 : P.sz ≤ 8 := hkp.1
  have hpb : P.bc ≤ P.sz := hkp.2.1
  have hA0 := hR.c
  have hF : Fr h h m (m + 19) := Fr.rf
  refine q_beginI (L := [some (vR m), none]) rfl ?_
  refine q_aload_n (pc' := 1) (dk_at dkX6_batches 0 rfl) rfl rfl ?_
  refine q_iconst (pc' := 2) (dk_at dkX6_batches 1 rfl) rfl ?_
  refine r_putf (pc' := 5) fp_RX6_66 (dk_at dkX6_batches 2 rfl) hM.obj (Nat.le_of_ble_eq_true rfl) (PT_int _) rfl (fun hh1 ehh1 => ?_)
  have hM := hM.w_obj ehh1
  have hF := hF.put ehh1 (by omega)
  refine q_aload_n (pc' := 6) (dk_at dkX6_batches 3 rfl) rfl rfl ?_
  refine r_cVI (pc' := 9) (As := []) (S := []) cv_RX6_189 (dk_at dkX6_batches 4 rfl) hM.obj rfl (k_M_runsKept (d := 6) (by omega) hR hk hkp hP hM) (by omega) (Nat.zero_le _) (Nat.zero_le _) rfl (Nat.le_of_ble_eq_true rfl) rfl (Nat.le_of_ble_eq_true rfl) rfl (fun xx2 hh3 hphh3 => ?_)
  obtain ⟨hx, sq1, op1, ss1, es1, bo1, su1, se1, hM, hS, hT, hGf⟩ := hphh3
  have hF := hF.tr hGf (by omega)
  have hxr := cvS_r hk hkp
  subst hx
  refine q_istore_n (pc' := 10) (L' := [some (vR m), some (vI (cvS S P))]) (dk_at dkX6_batches 5 rfl) (by decide) rfl rfl ?_
  refine q_aload_n (pc' := 11) (dk_at dkX6_batches 6 rfl) rfl rfl ?_
  refine r_getf (pc' := 14) fl_RX6_126 (dk_at dkX6_batches 7 rfl) hM.obj rfl rfl ?_
  refine r_iret rfl (dk_at dkX6_batches 8 rfl) ?_
  exact ⟨rfl, ⟨_, _, _, _, _, _, _, _, _, _, _, _, _, _, _, _, _, _, _, _, _, _, _, hM, ⟨hR, hP⟩, hSv, hTx, hL⟩, hF⟩

set_option maxHeartbeats 4000000 in
set_option maxRecDepth 100000 in
theorem k_M_cost {d n : Nat} {h : PH} {m : Nat} {S : Shp} {P : PlS} {kn bs : Int} {sv tl : Nat} {x : Nat → Snp} {tx : Nat → Int} {th : Int}  (hd : 30 ≤ d) (hI : MOI n h m th ((S, P, kn, bs), sv, x, tx, tl)) (hO : BOk ((S, P, kn, bs), sv, x, tx, tl))  : CtrJ mX6_cost d [vR m] n h (fun v h' => v = cvS S P ∧ MOI n h' m 0 ((S, P, kn, bs), sv, x, tx, tl) ∧ Fr h h' m (m + 19)) := by
  obtain ⟨A, sd, sq, op, ss, es, bo, su, se, tx1, ba, le, fr, un, sF, sR, sT, ad, l0, bm, nf, ne, nc, hM, ⟨hR, hP⟩, hSv, hTx, hL⟩ := hI
  have hM : isModel n h m A sd (sv : Int) th sq op l0 ss es bo su se bm tx1 (tl : Int) ba le fr un nf ne nc sF sR sT ad := hM
  have hR : MR A S := hR
  have hP : MP A P := hP
  have hSv : MSv sd sv x := hSv
  have hTx : ∀ i, i < tl → tx1 i = tx i := hTx
  obtain ⟨hko, hsv, hks, htl, htx⟩ := hO
  have hko : SnOk (S, P, kn, bs) := hko
  have hsv : sv ≤ 4 := hsv
  have hks : ∀ i, i < sv → SnOk (x i) := hks
  have htl : tl ≤ 60 := htl
  have htx : ∀ i, 0 ≤ tx i ∧ tx i ≤ 127 := htx
  have hk : Sok S := hko.1
  have hc8 := hk.c
  have hkp : Pok S.cnt P.od P.en P.bc P.sz := hko.2.1
  have hp8 : P.sz ≤ 8 := hkp.1
  have hpb : P.bc ≤ P.sz := hkp.2.1
  have hA0 := hR.c
  have hF : Fr h h m (m + 19) := Fr.rf
  refine q_beginJ (L := [some (vR m)]) rfl ?_
  refine q_aload_n (pc' := 1) (dk_at dkX6_cost 0 rfl) rfl rfl ?_
  refine q_iconst (pc' := 2) (dk_at dkX6_cost 1 rfl) rfl ?_
  refine r_putf (pc' := 5) fp_RX6_66 (dk_at dkX6_cost 2 rfl) hM.obj (Nat.le_of_ble_eq_true rfl) (PT_int _) rfl (fun hh1 ehh1 => ?_)
  have hM := hM.w_obj ehh1
  have hF := hF.put ehh1 (by omega)
  refine q_aload_n (pc' := 6) (dk_at dkX6_cost 3 rfl) rfl rfl ?_
  refine r_cVI (pc' := 9) (As := []) (S := []) cv_RX6_189 (dk_at dkX6_cost 4 rfl) hM.obj rfl (k_M_runsKept (d := 6) (by omega) hR hk hkp hP hM) (by omega) (Nat.zero_le _) (Nat.zero_le _) rfl (Nat.le_of_ble_eq_true rfl) rfl (Nat.le_of_ble_eq_true rfl) rfl (fun xx2 hh3 hphh3 => ?_)
  obtain ⟨hx, sq1, op1, ss1, es1, bo1, su1, se1, hM, hS, hT, hGf⟩ := hphh3
  have hF := hF.tr hGf (by omega)
  have hxr := cvS_r hk hkp
  subst hx
  refine q_i2l (pc' := 10) (dk_at dkX6_cost 5 rfl) (by omega) rfl ?_
  refine r_lret rfl (dk_at dkX6_cost 6 rfl) ?_
  exact ⟨rfl, ⟨_, _, _, _, _, _, _, _, _, _, _, _, _, _, _, _, _, _, _, _, _, _, _, hM, ⟨hR, hP⟩, hSv, hTx, hL⟩, hF⟩

set_option maxHeartbeats 4000000 in
set_option maxRecDepth 100000 in
theorem k_M_batch {d n : Nat} {h : PH} {m : Nat} {S : Shp} {P : PlS} {kn bs : Int} {sv tl : Nat} {x : Nat → Snp} {tx : Nat → Int} {th : Int} {i0 w : Int} (hd : 30 ≤ d) (hI : MOI n h m th ((S, P, kn, bs), sv, x, tx, tl)) (hO : BOk ((S, P, kn, bs), sv, x, tx, tl)) (hi1 : IR i0) (hi2 : IR w) : CtrI mX6_batch d [vR m, vI i0, vI w] n h (fun v h' => ((0 ≤ i0 ∧ i0 < (P.bc : Int)) ∧ (0 ≤ w ∧ w < 6) ∧ v = bvS S P w.toNat i0.toNat ∧ MOI n h' m 0 ((S, P, kn, bs), sv, x, tx, tl) ∧ Fr h h' m (m + 19)) ∨ (¬ (0 ≤ i0 ∧ i0 < (P.bc : Int)) ∧ MOI n h' m 1 ((S, P, kn, bs), sv, x, tx, tl) ∧ Fr h h' m (m + 19)) ∨ ((0 ≤ i0 ∧ i0 < (P.bc : Int)) ∧ ¬ (0 ≤ w ∧ w < 6) ∧ MOI n h' m 2 ((S, P, kn, bs), sv, x, tx, tl) ∧ Fr h h' m (m + 19))) := by
  obtain ⟨A, sd, sq, op, ss, es, bo, su, se, tx1, ba, le, fr, un, sF, sR, sT, ad, l0, bm, nf, ne, nc, hM, ⟨hR, hP⟩, hSv, hTx, hL⟩ := hI
  have hM : isModel n h m A sd (sv : Int) th sq op l0 ss es bo su se bm tx1 (tl : Int) ba le fr un nf ne nc sF sR sT ad := hM
  have hR : MR A S := hR
  have hP : MP A P := hP
  have hSv : MSv sd sv x := hSv
  have hTx : ∀ i, i < tl → tx1 i = tx i := hTx
  obtain ⟨hko, hsv, hks, htl, htx⟩ := hO
  have hko : SnOk (S, P, kn, bs) := hko
  have hsv : sv ≤ 4 := hsv
  have hks : ∀ i, i < sv → SnOk (x i) := hks
  have htl : tl ≤ 60 := htl
  have htx : ∀ i, 0 ≤ tx i ∧ tx i ≤ 127 := htx
  have hk : Sok S := hko.1
  have hc8 := hk.c
  have hkp : Pok S.cnt P.od P.en P.bc P.sz := hko.2.1
  have hp8 : P.sz ≤ 8 := hkp.1
  have hpb : P.bc ≤ P.sz := hkp.2.1
  have hA0 := hR.c
  have hF : Fr h h m (m + 19) := Fr.rf
  refine q_beginI (L := [some (vR m), some (vI i0), some (vI w), none]) rfl ?_
  refine q_aload_n (pc' := 1) (dk_at dkX6_batch 0 rfl) rfl rfl ?_
  refine r_cVI (pc' := 4) (As := []) (S := []) cv_RX6_189 (dk_at dkX6_batch 1 rfl) hM.obj rfl (k_M_runsKept (d := 6) (by omega) hR hk hkp hP hM) (by omega) (Nat.zero_le _) (Nat.zero_le _) rfl (Nat.le_of_ble_eq_true rfl) rfl (Nat.le_of_ble_eq_true rfl) rfl (fun xx1 hh2 hphh2 => ?_)
  obtain ⟨hx, sq1, op1, ss1, es1, bo1, su1, se1, hM, hS, hT, hGf⟩ := hphh2
  have hF := hF.tr hGf (by omega)
  have hxr := cvS_r hk hkp
  subst hx
  refine q_istore_n (pc' := 5) (L' := [some (vR m), some (vI i0), some (vI w), some (vI (cvS S P))]) (dk_at dkX6_batch 2 rfl) (by decide) rfl rfl ?_
  refine q_aload_n (pc' := 6) (dk_at dkX6_batch 3 rfl) rfl rfl ?_
  refine q_iload_n (pc' := 7) (dk_at dkX6_batch 4 rfl) rfl rfl ?_
  refine q_i2l (pc' := 8) (dk_at dkX6_batch 5 rfl) (by omega) rfl ?_
  refine q_lconst0 (pc' := 9) (dk_at dkX6_batch 6 rfl) rfl ?_
  refine q_aload_n (pc' := 10) (dk_at dkX6_batch 7 rfl) rfl rfl ?_
  refine r_getf (pc' := 13) fl_RX6_126 (dk_at dkX6_batch 8 rfl) hM.obj rfl rfl ?_
  refine q_iconst (pc' := 14) (dk_at dkX6_batch 9 rfl) rfl ?_
  refine q_isub (pc' := 15) (dk_at dkX6_batch 10 rfl) rfl ?_
  refine q_i2l (pc' := 16) (dk_at dkX6_batch 11 rfl) (by omega) rfl ?_
  refine r_cSI (pc' := 19) (As := [vJ i0, vJ 0, vJ ((P.bc : Int) - 1)]) (S := [vR m]) cs_RX6_73 (dk_at dkX6_batch 12 rfl) (k_M_in (d := 0) (by omega) (by omega) (by omega)) (by omega) (Nat.zero_le _) (Nat.zero_le _) rfl (Nat.le_of_ble_eq_true rfl) rfl (Nat.le_of_ble_eq_true rfl) rfl (fun xx3 hh4 hphh4 => ?_)
  obtain ⟨qq5, y16⟩ := hphh4
  rw [qq5]
  have yr16 := y16.r
  refine q_iload_n (pc' := 20) (dk_at dkX6_batch 13 rfl) rfl rfl ?_
  refine q_i2l (pc' := 21) (dk_at dkX6_batch 14 rfl) (by omega) rfl ?_
  refine q_lconst0 (pc' := 22) (dk_at dkX6_batch 15 rfl) rfl ?_
  refine q_ldc2 (pc' := 25) (z := 5) kc_RX6_112 (by decide +kernel) (dk_at dkX6_batch 16 rfl) rfl ?_
  refine r_cSI (pc' := 28) (As := [vJ w, vJ 0, vJ 5]) (S := [vI xx3, vR m]) cs_RX6_73 (dk_at dkX6_batch 17 rfl) (k_M_in (d := 0) (by omega) (by omega) (by omega)) (by omega) (Nat.zero_le _) (Nat.zero_le _) rfl (Nat.le_of_ble_eq_true rfl) rfl (Nat.le_of_ble_eq_true rfl) rfl (fun xx6 hh7 hphh7 => ?_)
  obtain ⟨qq8, y25⟩ := hphh7
  rw [qq8]
  have yr25 := y25.r
  refine r_cVI (pc' := 31) (As := [vI xx3, vI xx6]) (S := []) cv_RX6_91 (dk_at dkX6_batch 18 rfl) hM.obj rfl (k_M_goes (d := 0) (by omega) (by omega) hM) (by omega) (Nat.zero_le _) (Nat.zero_le _) rfl (Nat.le_of_ble_eq_true rfl) rfl (Nat.le_of_ble_eq_true rfl) rfl (fun xx9 hh10 hphh10 => ?_)
  obtain ⟨y28, hM, hGf⟩ := hphh10
  have hF := hF.tr hGf (by omega)
  have yr28 := y28.r
  refine q_if_eq (tgt := 43) (pc' := 34) (dk_at dkX6_batch 19 rfl) rfl rfl (by omega) (fun c31 => ?_) (fun c31 => ?_)
  · refine q_iconst (pc' := 44) (dk_at dkX6_batch 25 rfl) rfl ?_
    refine r_iret rfl (dk_at dkX6_batch 26 rfl) ?_
    by_cases z : xx3 = 0
    · rw [if_pos z] at hM
      exact Or.inr (Or.inl ⟨by have := y16.f z; omega, ⟨_, _, _, _, _, _, _, _, _, _, _, _, _, _, _, _, _, _, _, _, _, _, _, hM, ⟨hR, hP⟩, hSv, hTx, hL⟩, hF⟩)
    · rw [if_neg z, if_pos (by have := y28.f (by omega); omega)] at hM
      exact Or.inr (Or.inr ⟨by have := y16.t z; omega, by have := y28.f (by omega); have := y16.r; have := y25.f (by have := y25.r; omega); omega, ⟨_, _, _, _, _, _, _, _, _, _, _, _, _, _, _, _, _, _, _, _, _, _, _, hM, ⟨hR, hP⟩, hSv, hTx, hL⟩, hF⟩)
  · have yy := y28.t (by omega)
    rw [if_neg (by omega), if_neg (by omega)] at hM
    have yi := y16.t (by omega)
    have yw := y25.t (by omega)
    obtain ⟨bi, rfl⟩ : ∃ z : Nat, i0 = (z : Int) := ⟨i0.toNat, by omega⟩
    refine q_aload_n (pc' := 35) (dk_at dkX6_batch 20 rfl) rfl rfl ?_
    refine q_iload_n (pc' := 36) (dk_at dkX6_batch 21 rfl) rfl rfl ?_
    refine q_iload_n (pc' := 37) (dk_at dkX6_batch 22 rfl) rfl rfl ?_
    refine r_cVI (pc' := 40) (As := [vI (bi : Int), vI w]) (S := []) cv_RX6_195 (dk_at dkX6_batch 23 rfl) hM.obj rfl (k_M_batchValue (d := 1) (b := bi) (w := w.toNat) (by omega) hR hk hkp hS hT (by omega) (by omega) (by omega) hM) (by omega) (Nat.zero_le _) (Nat.zero_le _) rfl (Nat.le_of_ble_eq_true rfl) rfl (Nat.le_of_ble_eq_true rfl) rfl (fun xx11 hh12 hphh12 => ?_)
    obtain ⟨qq13, rfl⟩ := hphh12
    rw [qq13]
    refine q_goto (tgt := 44) (dk_at dkX6_batch 24 rfl) rfl ?_
    refine r_iret rfl (dk_at dkX6_batch 26 rfl) ?_
    exact Or.inl ⟨by omega, by omega, rfl, ⟨_, _, _, _, _, _, _, _, _, _, _, _, _, _, _, _, _, _, _, _, _, _, _, hM, ⟨hR, hP⟩, hSv, hTx, hL⟩, hF⟩

set_option maxHeartbeats 4000000 in
set_option maxRecDepth 100000 in
theorem k_M_jobAt {d n : Nat} {h : PH} {m : Nat} {S : Shp} {P : PlS} {kn bs : Int} {sv tl : Nat} {x : Nat → Snp} {tx : Nat → Int} {th : Int} {i0 k0 : Int} (hd : 30 ≤ d) (hI : MOI n h m th ((S, P, kn, bs), sv, x, tx, tl)) (hO : BOk ((S, P, kn, bs), sv, x, tx, tl)) (hi1 : IR i0) (hi2 : IR k0) : CtrI mX6_jobAt d [vR m, vI i0, vI k0] n h (fun v h' => (((0 ≤ i0 ∧ i0 < (P.bc : Int)) ∧ (0 ≤ k0 ∧ k0 < P.en i0.toNat - ((bgn P.en i0.toNat : Nat) : Int))) ∧ v = P.od (bgn P.en i0.toNat + k0.toNat) ∧ MOI n h' m 0 ((S, P, kn, bs), sv, x, tx, tl) ∧ Fr h h' m (m + 19)) ∨ (¬ ((0 ≤ i0 ∧ i0 < (P.bc : Int)) ∧ (0 ≤ k0 ∧ k0 < P.en i0.toNat - ((bgn P.en i0.toNat : Nat) : Int))) ∧ MOI n h' m 1 ((S, P, kn, bs), sv, x, tx, tl) ∧ Fr h h' m (m + 19))) := by
  obtain ⟨A, sd, sq, op, ss, es, bo, su, se, tx1, ba, le, fr, un, sF, sR, sT, ad, l0, bm, nf, ne, nc, hM, ⟨hR, hP⟩, hSv, hTx, hL⟩ := hI
  have hM : isModel n h m A sd (sv : Int) th sq op l0 ss es bo su se bm tx1 (tl : Int) ba le fr un nf ne nc sF sR sT ad := hM
  have hR : MR A S := hR
  have hP : MP A P := hP
  have hSv : MSv sd sv x := hSv
  have hTx : ∀ i, i < tl → tx1 i = tx i := hTx
  obtain ⟨hko, hsv, hks, htl, htx⟩ := hO
  have hko : SnOk (S, P, kn, bs) := hko
  have hsv : sv ≤ 4 := hsv
  have hks : ∀ i, i < sv → SnOk (x i) := hks
  have htl : tl ≤ 60 := htl
  have htx : ∀ i, 0 ≤ tx i ∧ tx i ≤ 127 := htx
  have hk : Sok S := hko.1
  have hc8 := hk.c
  have hkp : Pok S.cnt P.od P.en P.bc P.sz := hko.2.1
  have hp8 : P.sz ≤ 8 := hkp.1
  have hpb : P.bc ≤ P.sz := hkp.2.1
  have hA0 := hR.c
  have hF : Fr h h m (m + 19) := Fr.rf
  refine q_beginI (L := [some (vR m), some (vI i0), some (vI k0), none, none]) rfl ?_
  refine q_aload_n (pc' := 1) (dk_at dkX6_jobAt 0 rfl) rfl rfl ?_
  refine r_cVI (pc' := 4) (As := []) (S := []) cv_RX6_189 (dk_at dkX6_jobAt 1 rfl) hM.obj rfl (k_M_runsKept (d := 6) (by omega) hR hk hkp hP hM) (by omega) (Nat.zero_le _) (Nat.zero_le _) rfl (Nat.le_of_ble_eq_true rfl) rfl (Nat.le_of_ble_eq_true rfl) rfl (fun xx1 hh2 hphh2 => ?_)
  obtain ⟨hx, sq1, op1, ss1, es1, bo1, su1, se1, hM, hS, hT, hGf⟩ := hphh2
  have hF := hF.tr hGf (by omega)
  have hxr := cvS_r hk hkp
  subst hx
  refine q_istore_n (pc' := 5) (L' := [some (vR m), some (vI i0), some (vI k0), some (vI (cvS S P)), none]) (dk_at dkX6_jobAt 2 rfl) (by decide) rfl rfl ?_
  refine q_join 44 [some (vR m), some (vI i0), some (vI k0), some (vI (cvS S P)), none] [] (fun jx => YN jx ((0 ≤ i0 ∧ i0 < (P.bc : Int)) ∧ (0 ≤ k0 ∧ k0 < P.en i0.toNat - ((bgn P.en i0.toNat : Nat) : Int)))) (fun jx44 yis => ?_) (fun J44 => ?_)
  · have yisr := yis.r
    refine q_istore (pc' := 46) (L' := [some (vR m), some (vI i0), some (vI k0), some (vI (cvS S P)), some (vI jx44)]) (dk_at dkX6_jobAt 28 rfl) (by decide) rfl rfl ?_
    refine q_aload_n (pc' := 47) (dk_at dkX6_jobAt 29 rfl) rfl rfl ?_
    refine q_iload (pc' := 49) (dk_at dkX6_jobAt 30 rfl) rfl rfl ?_
    refine q_iconst (pc' := 50) (dk_at dkX6_jobAt 31 rfl) rfl ?_
    refine r_cVI (pc' := 53) (As := [vI jx44, vI 1]) (S := []) cv_RX6_91 (dk_at dkX6_jobAt 32 rfl) hM.obj rfl (k_M_goes (d := 0) (by omega) (by omega) hM) (by omega) (Nat.zero_le _) (Nat.zero_le _) rfl (Nat.le_of_ble_eq_true rfl) rfl (Nat.le_of_ble_eq_true rfl) rfl (fun xx3 hh4 hphh4 => ?_)
    obtain ⟨y50, hM, hGf⟩ := hphh4
    have hF := hF.tr hGf (by omega)
    have yr50 := y50.r
    refine q_if_eq (tgt := 71) (pc' := 56) (dk_at dkX6_jobAt 33 rfl) rfl rfl (by omega) (fun c53 => ?_) (fun c53 => ?_)
    · refine q_iconst (pc' := 72) (dk_at dkX6_jobAt 43 rfl) rfl ?_
      refine r_iret rfl (dk_at dkX6_jobAt 44 rfl) ?_
      rw [if_pos (by have := y50.f (by omega); have := yis.r; omega)] at hM
      exact Or.inr ⟨yis.f (by have := y50.f (by omega); have := yis.r; omega), ⟨_, _, _, _, _, _, _, _, _, _, _, _, _, _, _, _, _, _, _, _, _, _, _, hM, ⟨hR, hP⟩, hSv, hTx, hL⟩, hF⟩
    · have yy := y50.t (by omega)
      rw [if_neg (by omega), if_neg (by omega)] at hM
      have yi := yis.t (by omega)
      have yi0 := yi
      obtain ⟨bi, rfl⟩ : ∃ z : Nat, i0 = (z : Int) := ⟨i0.toNat, by omega⟩
      simp only [Int.toNat_natCast] at yi0
      have hnx := hkp.nx (b := bi) (by omega)
      refine q_aload_n (pc' := 57) (dk_at dkX6_jobAt 34 rfl) rfl rfl ?_
      refine r_getf (pc' := 60) fl_RX6_16 (dk_at dkX6_jobAt 35 rfl) hM.obj rfl rfl ?_
      refine q_aload_n (pc' := 61) (dk_at dkX6_jobAt 36 rfl) rfl rfl ?_
      refine q_iload_n (pc' := 62) (dk_at dkX6_jobAt 37 rfl) rfl rfl ?_
      refine r_cVI (pc' := 65) (As := [vI (bi : Int)]) (S := [vR (m + 3)]) cv_RX6_192 (dk_at dkX6_jobAt 38 rfl) hM.obj rfl (k_M_firstOf (d := 0) (b := bi) hkp hT (by omega) hM) (by omega) (Nat.zero_le _) (Nat.zero_le _) rfl (Nat.le_of_ble_eq_true rfl) rfl (Nat.le_of_ble_eq_true rfl) rfl (fun xx5 hh6 hphh6 => ?_)
      obtain ⟨qq7, rfl⟩ := hphh6
      rw [qq7]
      refine q_iload_n (pc' := 66) (dk_at dkX6_jobAt 39 rfl) rfl rfl ?_
      refine q_iadd (pc' := 67) (dk_at dkX6_jobAt 40 rfl) rfl ?_
      refine r_iald (pc' := 68) (dk_at dkX6_jobAt 41 rfl) hM.sequence (((((bgn P.en bi : Nat) : Int) + k0)).toNat) (by omega) (by omega) (by decide) rfl ?_
      refine q_goto (tgt := 72) (dk_at dkX6_jobAt 42 rfl) rfl ?_
      refine r_iret rfl (dk_at dkX6_jobAt 44 rfl) ?_
      refine Or.inl ⟨yi, ?_, ⟨_, _, _, _, _, _, _, _, _, _, _, _, _, _, _, _, _, _, _, _, _, _, _, hM, ⟨hR, hP⟩, hSv, hTx, hL⟩, hF⟩
      have hnx := hkp.nx (b := bi) (by omega)
      rw [hS.1 _ (by omega)]
      show P.od _ = P.od (bgn P.en (bi : Int).toNat + k0.toNat)
      congr 1
      simp only [Int.toNat_natCast]
      omega
  refine q_iload_n (pc' := 6) (dk_at dkX6_jobAt 3 rfl) rfl rfl ?_
  refine q_i2l (pc' := 7) (dk_at dkX6_jobAt 4 rfl) (by omega) rfl ?_
  refine q_lconst0 (pc' := 8) (dk_at dkX6_jobAt 5 rfl) rfl ?_
  refine q_aload_n (pc' := 9) (dk_at dkX6_jobAt 6 rfl) rfl rfl ?_
  refine r_getf (pc' := 12) fl_RX6_126 (dk_at dkX6_jobAt 7 rfl) hM.obj rfl rfl ?_
  refine q_iconst (pc' := 13) (dk_at dkX6_jobAt 8 rfl) rfl ?_
  refine q_isub (pc' := 14) (dk_at dkX6_jobAt 9 rfl) rfl ?_
  refine q_i2l (pc' := 15) (dk_at dkX6_jobAt 10 rfl) (by omega) rfl ?_
  refine r_cSI (pc' := 18) (As := [vJ i0, vJ 0, vJ ((P.bc : Int) - 1)]) (S := []) cs_RX6_73 (dk_at dkX6_jobAt 11 rfl) (k_M_in (d := 0) (by omega) (by omega) (by omega)) (by omega) (Nat.zero_le _) (Nat.zero_le _) rfl (Nat.le_of_ble_eq_true rfl) rfl (Nat.le_of_ble_eq_true rfl) rfl (fun xx8 hh9 hphh9 => ?_)
  obtain ⟨qq10, y15⟩ := hphh9
  rw [qq10]
  have yr15 := y15.r
  refine q_if_eq (tgt := 43) (pc' := 21) (dk_at dkX6_jobAt 12 rfl) rfl rfl (by omega) (fun c18 => ?_) (fun c18 => ?_)
  · refine q_iconst (pc' := 44) (dk_at dkX6_jobAt 27 rfl) rfl ?_
    exact J44 _ (Or.inr ⟨rfl, by have := y15.f c18; omega⟩)
  · have yi := y15.t c18
    obtain ⟨bi, ebi⟩ : ∃ z : Nat, i0 = (z : Int) := ⟨i0.toNat, by omega⟩
    have ebn : i0.toNat = bi := by omega
    have hnx := hkp.nx (b := bi) (by omega)
    have ebg : bgn P.en i0.toNat = bgn P.en bi := by rw [ebn]
    have eben : P.en i0.toNat = P.en bi := by rw [ebn]
    refine q_iload_n (pc' := 22) (dk_at dkX6_jobAt 13 rfl) rfl rfl ?_
    refine q_i2l (pc' := 23) (dk_at dkX6_jobAt 14 rfl) (by omega) rfl ?_
    refine q_lconst0 (pc' := 24) (dk_at dkX6_jobAt 15 rfl) rfl ?_
    refine q_aload_n (pc' := 25) (dk_at dkX6_jobAt 16 rfl) rfl rfl ?_
    refine q_iload_n (pc' := 26) (dk_at dkX6_jobAt 17 rfl) rfl rfl ?_
    refine q_iconst (pc' := 27) (dk_at dkX6_jobAt 18 rfl) rfl ?_
    subst ebi
    refine r_cVI (pc' := 30) (As := [vI (bi : Int), vI 1]) (S := [vJ 0, vJ k0]) cv_RX6_195 (dk_at dkX6_jobAt 19 rfl) hM.obj rfl (k_M_batchValue (d := 1) (b := bi) (w := 1) (by omega) hR hk hkp hS hT (by omega) rfl (by omega) hM) (by omega) (Nat.zero_le _) (Nat.zero_le _) rfl (Nat.le_of_ble_eq_true rfl) rfl (Nat.le_of_ble_eq_true rfl) rfl (fun xx11 hh12 hphh12 => ?_)
    obtain ⟨qq13, yb1⟩ := hphh12
    rw [qq13]
    have yb1 : xx11 = P.en bi - ((bgn P.en bi : Nat) : Int) := yb1
    refine q_iconst (pc' := 31) (dk_at dkX6_jobAt 20 rfl) rfl ?_
    refine q_isub (pc' := 32) (dk_at dkX6_jobAt 21 rfl) rfl ?_
    refine q_i2l (pc' := 33) (dk_at dkX6_jobAt 22 rfl) (by omega) rfl ?_
    refine r_cSI (pc' := 36) (As := [vJ k0, vJ 0, vJ (xx11 - 1)]) (S := []) cs_RX6_73 (dk_at dkX6_jobAt 23 rfl) (k_M_in (d := 0) (by omega) (by omega) (by omega)) (by omega) (Nat.zero_le _) (Nat.zero_le _) rfl (Nat.le_of_ble_eq_true rfl) rfl (Nat.le_of_ble_eq_true rfl) rfl (fun xx14 hh15 hphh15 => ?_)
    obtain ⟨qq16, y33⟩ := hphh15
    rw [qq16]
    have yr33 := y33.r
    refine q_if_eq (tgt := 43) (pc' := 39) (dk_at dkX6_jobAt 24 rfl) rfl rfl (by omega) (fun c36 => ?_) (fun c36 => ?_)
    · refine q_iconst (pc' := 44) (dk_at dkX6_jobAt 27 rfl) rfl ?_
      exact J44 _ (Or.inr ⟨rfl, by have := y33.f c36; omega⟩)
    · refine q_iconst (pc' := 40) (dk_at dkX6_jobAt 25 rfl) rfl ?_
      refine q_goto (tgt := 44) (dk_at dkX6_jobAt 26 rfl) rfl ?_
      exact J44 _ (Or.inl ⟨rfl, by have := y15.t c18; omega, by have := y33.t c36; omega⟩)
