/-! BatchMachine: saveState -/
set_option maxHeartbeats 4000000 in
set_option maxRecDepth 100000 in
theorem l_save1 {d n : Nat} {F : FT} {h : PH} {b : Nat} {q : Nat → Nat} {x : Nat → Snp} {sv tl : Int} {tx : Nat → Int} (hq : Pm4 q) (hZ : ∀ i, i < 4 → StS n h (b + 19 + 17 * q i) (x i)) (hex : ∀ (h1 : PH) (i : Nat), At1 n h1 (b + 18) (cR 0 4 (rotF (svF b q) 4)) → isBM n h1 b sv tx tl → Fr h h1 (b + 18) (b + 19) → QN mX5_saveState d F 42 [some (vR b), some (vR (b + 19 + 17 * q 0)), some (vI (i : Int))] [] n h1) : ∀ (c : Nat) (i : Nat) (h1 : PH), (i + c = 4) → (1 ≤ i) → (At1 n h1 (b + 18) (cR 0 4 (rotF (svF b q) i))) → (isBM n h1 b sv tx tl) → (Fr h h1 (b + 18) (b + 19)) → QN mX5_saveState d F 17 [some (vR b), some (vR (b + 19 + 17 * q 0)), some (vI (i : Int))] [] n h1 := by
  intro c
  induction c with
  | zero =>
    intro i h1 hc hi hA hB hF
    refine q_iload_n (pc' := 18) (dk_at dkX5_saveState 11 rfl) rfl rfl ?_
    refine q_iconst (pc' := 19) (dk_at dkX5_saveState 12 rfl) rfl ?_
    refine q_icmp_ge (tgt := 42) (pc' := 22) (dk_at dkX5_saveState 13 rfl) rfl rfl (by omega) (by omega) (fun c19 => ?_) (fun c19 => ?_)
    · first | (exfalso; omega; done) | exact hex h1 i (by rw [show i = 4 by omega] at hA; exact hA) hB hF
    · exfalso
      omega
  | succ c ih =>
    intro i h1 hc hi hA hB hF
    refine q_iload_n (pc' := 18) (dk_at dkX5_saveState 11 rfl) rfl rfl ?_
    refine q_iconst (pc' := 19) (dk_at dkX5_saveState 12 rfl) rfl ?_
    refine q_icmp_ge (tgt := 42) (pc' := 22) (dk_at dkX5_saveState 13 rfl) rfl rfl (by omega) (by omega) (fun c19 => ?_) (fun c19 => ?_)
    · first | (exfalso; omega; done) | exact hex h1 i (by rw [show i = 4 by omega] at hA; exact hA) hB hF
    · refine q_aload_n (pc' := 23) (dk_at dkX5_saveState 14 rfl) rfl rfl ?_
      refine r_getf (pc' := 26) fl_RX5_16 (dk_at dkX5_saveState 15 rfl) hB.obj rfl rfl ?_
      refine q_iload_n (pc' := 27) (dk_at dkX5_saveState 16 rfl) rfl rfl ?_
      refine q_iconst (pc' := 28) (dk_at dkX5_saveState 17 rfl) rfl ?_
      refine q_isub (pc' := 29) (dk_at dkX5_saveState 18 rfl) rfl ?_
      refine q_aload_n (pc' := 30) (dk_at dkX5_saveState 19 rfl) rfl rfl ?_
      refine r_getf (pc' := 33) fl_RX5_16 (dk_at dkX5_saveState 20 rfl) hB.obj rfl rfl ?_
      refine q_iload_n (pc' := 34) (dk_at dkX5_saveState 21 rfl) rfl rfl ?_
      have hg : rotF (svF b q) i i = some (b + 19 + 17 * q i) := by unfold rotF svF; rw [if_neg (by omega), if_pos (by omega)]
      refine r_aald0 (pc' := 35) (dk_at dkX5_saveState 22 rfl) hA i (by omega) (by omega) (by decide) hg rfl ?_
      have hqi := hq.1 i (by omega)
      have hst := isState.frm (hZ i (by omega)).1 hF (by omega)
      refine r_aast (pc' := 36) (dk_at dkX5_saveState 23 rfl) hA (i - 1) (by omega) (by omega) (by decide) hst rfl (fun hh1 ehh1 => ?_)
      have hA := hA.put ehh1
      rw [← hg, show rotF (svF b q) i i = svF b q i from if_neg (by omega), rotF_step (by omega)] at hA
      have hB := hB.off ehh1 (by omega)
      have hF := hF.put ehh1 (by omega)
      refine q_iinc (pc' := 39) (L' := [some (vR b), some (vR (b + 19 + 17 * q 0)), some (vI ((i : Int) + 1))]) (dk_at dkX5_saveState 24 rfl) (by decide) rfl rfl rfl ?_
      rw [show ((i : Int) + 1) = ((i + 1 : Nat) : Int) by omega]
      refine q_goto (tgt := 17) (dk_at dkX5_saveState 25 rfl) rfl ?_
      exact ih (i + 1) _ (by omega) (by omega) hA hB hF

set_option maxHeartbeats 4000000 in
set_option maxRecDepth 100000 in
theorem l_save2 {d n : Nat} {h h1 : PH} {b sv : Nat} {q : Nat → Nat} {x : Nat → Snp} {c : Snp} {tl : Int} {tx : Nat → Int} {y1 y2 : Option PV} (hd : 3 ≤ d) (hk : SnOk c) (hq : Pm4 q) (hsv : sv < 4) (hB : isBM n h1 b (sv : Int) tx tl) (hN : StS n h1 (b + 1) c) (hZ : SvP n h1 b q x) (hF : Fr h h1 b (b + 87)) : QN mX5_saveState d (FV n (fun h' => isBM n h' b ((sv : Int) + 1) tx tl ∧ StS n h' (b + 1) c ∧ SvP n h' b q (setX x sv c) ∧ Fr h h' b (b + 87))) 54 [some (vR b), y1, y2] [] n h1 := by
  refine q_aload_n (pc' := 55) (dk_at dkX5_saveState 34 rfl) rfl rfl ?_
  refine r_getf (pc' := 58) fl_RX5_16 (dk_at dkX5_saveState 35 rfl) hB.obj rfl rfl ?_
  refine q_aload_n (pc' := 59) (dk_at dkX5_saveState 36 rfl) rfl rfl ?_
  refine r_getf (pc' := 62) fl_RX5_216 (dk_at dkX5_saveState 37 rfl) hB.obj rfl rfl ?_
  have hg : svF b q sv = some (b + 19 + 17 * q sv) := if_pos (by omega)
  refine r_aald0 (pc' := 63) (dk_at dkX5_saveState 38 rfl) hZ.1 sv (by omega) (by omega) (by decide) hg rfl ?_
  refine q_aload_n (pc' := 64) (dk_at dkX5_saveState 39 rfl) rfl rfl ?_
  refine r_getf (pc' := 67) fl_RX5_10 (dk_at dkX5_saveState 40 rfl) hB.obj rfl rfl ?_
  have hOo : isState n h1 (b + 19 + 17 * q sv) (x sv).kn (x sv).bs := (hZ.2 sv (by omega)).1
  refine r_cVV (pc' := 70) (As := [vR (b + 1)]) (S := []) cv_RX5_221 (dk_at dkX5_saveState 41 rfl) hOo.obj rfl (k_State_takeFrom (d := 2) (by omega) hk.1 hk.2.2.1 (by have := hq.1 sv (by omega); omega) (hZ.2 sv (by omega)) hN) (by omega) (Nat.zero_le _) (Nat.zero_le _) rfl (Nat.le_of_ble_eq_true rfl) rfl (Nat.le_of_ble_eq_true rfl) rfl (fun hh2 hphh2 => ?_)
  obtain ⟨hO, hGf⟩ := hphh2
  have hqs := hq.1 sv (by omega)
  have hZ := SvP.put (c := c) hq hZ hsv hO hGf
  have hB := isBM.frm hB hGf (by omega)
  have hN := StS.frm hN hGf (by omega)
  have hF := hF.tr hGf (by omega)
  refine q_aload_n (pc' := 71) (dk_at dkX5_saveState 42 rfl) rfl rfl ?_
  refine q_aload_n (pc' := 72) (dk_at dkX5_saveState 43 rfl) rfl rfl ?_
  refine r_getf (pc' := 75) fl_RX5_216 (dk_at dkX5_saveState 44 rfl) hB.obj rfl rfl ?_
  refine q_iconst (pc' := 76) (dk_at dkX5_saveState 45 rfl) rfl ?_
  refine q_iadd (pc' := 77) (dk_at dkX5_saveState 46 rfl) rfl ?_
  refine r_putf (pc' := 80) fp_RX5_216 (dk_at dkX5_saveState 47 rfl) hB.obj (Nat.le_of_ble_eq_true rfl) (PT_int _) rfl (fun hh3 ehh3 => ?_)
  have hB := hB.w_obj ehh3
  have hN := hN.off ehh3 (by omega)
  have hF := hF.put ehh3 (by omega)
  have hZ2 := SvP.frm hq hZ (fr1 ehh3) (by omega)
  refine r_vret rfl (dk_at dkX5_saveState 48 rfl) ?_
  exact ⟨hB, hN, hZ2, hF⟩

theorem QN_mono {M : MD} {d n : Nat} {pc : Nat} {L : List (Option PV)} {S : List PV} {h : PH} {post post' : PH → Prop} (H : QN M d (FV n post) pc L S n h) (hi : ∀ h', post h' → post' h') : QN M d (FV n post') pc L S n h := by
  intro p l e R s m args below meth c D B K X H1 locs ls O Hl HP Hs HS T hT X'
  obtain ⟨t, a1, o, b1, b2, ⟨r, n', h', z1, ⟨z2, z3, z4⟩, z5⟩, b4⟩ := H p l e R s m args below meth c D B K X H1 locs ls O Hl HP Hs HS T hT X'
  exact ⟨t, a1, o, b1, b2, ⟨r, n', h', z1, ⟨z2, z3, hi _ z4⟩, z5⟩, b4⟩
set_option maxHeartbeats 4000000 in
set_option maxRecDepth 100000 in
theorem k_BM_saveState {d n : Nat} {h : PH} {b sv : Nat} {x : Nat → Snp} {c : Snp} {tl : Int} {tx : Nat → Int} (hd : 3 ≤ d) (hk : SnOk c) (hsv : sv ≤ 4) (hB : isBM n h b (sv : Int) tx tl) (hN : StS n h (b + 1) c) (hZ : SvI n h b x) : CtrV mX5_saveState d [vR b] n h (fun h' => isBM n h' b (pshN sv : Int) tx tl ∧ StS n h' (b + 1) c ∧ SvI n h' b (pshX sv x c) ∧ Fr h h' b (b + 87)) := by
  obtain ⟨q, hq, hZ⟩ := hZ
  refine q_beginV (L := [some (vR b), none, none]) rfl ?_
  refine q_aload_n (pc' := 1) (dk_at dkX5_saveState 0 rfl) rfl rfl ?_
  refine r_getf (pc' := 4) fl_RX5_216 (dk_at dkX5_saveState 1 rfl) hB.obj rfl rfl ?_
  refine q_iconst (pc' := 5) (dk_at dkX5_saveState 2 rfl) rfl ?_
  refine q_icmp_lt (tgt := 54) (pc' := 8) (dk_at dkX5_saveState 3 rfl) rfl rfl (by omega) (by omega) (fun c5 => ?_) (fun c5 => ?_)
  · refine QN_mono (l_save2 (x := x) (h := h) hd hk hq (by omega) hB hN hZ Fr.rf) (fun h' z => ?_)
    obtain ⟨z1, z2, z3, z4⟩ := z
    have e1 : pshN sv = sv + 1 := by unfold pshN; rw [if_neg (by omega)]
    have e2 : pshX sv x c = setX x sv c := by unfold pshX setX; rw [if_neg (by omega)]
    rw [e1, e2]
    exact ⟨z1, z2, ⟨q, hq, z3⟩, z4⟩
  · refine q_aload_n (pc' := 9) (dk_at dkX5_saveState 4 rfl) rfl rfl ?_
    refine r_getf (pc' := 12) fl_RX5_16 (dk_at dkX5_saveState 5 rfl) hB.obj rfl rfl ?_
    refine q_iconst (pc' := 13) (dk_at dkX5_saveState 6 rfl) rfl ?_
    have hA := hZ.1
    have hg : svF b q 0 = some (b + 19 + 17 * q 0) := if_pos (by omega)
    refine r_aald0 (pc' := 14) (dk_at dkX5_saveState 7 rfl) hA 0 (by omega) (by omega) (by decide) hg rfl ?_
    refine q_astore_n (pc' := 15) (L' := [some (vR b), some (vR (b + 19 + 17 * q 0)), none]) (dk_at dkX5_saveState 8 rfl) (by decide) rfl rfl ?_
    refine q_iconst (pc' := 16) (dk_at dkX5_saveState 9 rfl) rfl ?_
    refine q_istore_n (pc' := 17) (L' := [some (vR b), some (vR (b + 19 + 17 * q 0)), some (vI 1)]) (dk_at dkX5_saveState 10 rfl) (by decide) rfl rfl ?_
    refine l_save1 (h := h) hq hZ.2 ?_ 3 1 _ (by omega) (by omega) (by rw [rotF_one]; exact hA) hB Fr.rf
    intro h1 i hA hB hF
    have hZ := hZ.2
    refine q_aload_n (pc' := 43) (dk_at dkX5_saveState 26 rfl) rfl rfl ?_
    refine r_getf (pc' := 46) fl_RX5_16 (dk_at dkX5_saveState 27 rfl) hB.obj rfl rfl ?_
    refine q_iconst (pc' := 47) (dk_at dkX5_saveState 28 rfl) rfl ?_
    refine q_aload_n (pc' := 48) (dk_at dkX5_saveState 29 rfl) rfl rfl ?_
    have hq0 := hq.1 0 (by omega)
    have hst := isState.frm (hZ 0 (by omega)).1 hF (by omega)
    refine r_aast (pc' := 49) (dk_at dkX5_saveState 30 rfl) hA (3) (by omega) (by omega) (by decide) hst rfl (fun hh1 ehh1 => ?_)
    have hA := hA.put ehh1
    rw [rotQ_F] at hA
    have hB := hB.off ehh1 (by omega)
    have hF := hF.put ehh1 (by omega)
    have hZ3 : SvP n hh1 b (rotQ q) (rotX x) := SvP.rot hq (fun i hi => (hZ i hi).frm hF (by have := hq.1 i hi; omega)) hA
    refine q_aload_n (pc' := 50) (dk_at dkX5_saveState 31 rfl) rfl rfl ?_
    refine q_iconst (pc' := 51) (dk_at dkX5_saveState 32 rfl) rfl ?_
    refine r_putf (pc' := 54) fp_RX5_216 (dk_at dkX5_saveState 33 rfl) hB.obj (Nat.le_of_ble_eq_true rfl) (PT_int _) rfl (fun hh2 ehh2 => ?_)
    have hB := hB.w_obj ehh2
    have hF3 : Fr h hh2 b (b + 87) := fun k hk => by rw [fr1 ehh2 k (by omega)]; exact hF k (by omega)
    have hN3 := (hN.frm hF (by omega)).frm (fr1 ehh2) (by omega)
    have hZ3 := SvP.frm (rotQ_ok hq) hZ3 (fr1 ehh2) (by omega)
    refine QN_mono (l_save2 (x := rotX x) (q := rotQ q) (sv := 3) (h := h) hd hk (rotQ_ok hq) (by omega) hB hN3 hZ3 hF3) (fun h' z => ?_)
    obtain ⟨z1, z2, z3, z4⟩ := z
    have e1 : pshN sv = 4 := by unfold pshN; rw [if_pos (by omega)]
    rw [e1]
    exact ⟨z1, z2, ⟨rotQ q, rotQ_ok hq, z3.cong (psh_rot (by omega))⟩, z4⟩
