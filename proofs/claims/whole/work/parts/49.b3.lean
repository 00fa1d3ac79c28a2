/-! BatchMachine: the present best cost -/
def lcS (S : Shp) (fi : Int) : Int := if S.cnt = 0 then 0 else fnS S fi
/-- what a call that looks for the best may write: the state's own cell, the draft, the timing, the search -/
def FrW (h h' : PH) (b : Nat) : Prop := ∀ k, k ≠ b + 1 → ¬ (b + 88 ≤ k ∧ k < b + 105) → ¬ (b + 118 ≤ k ∧ k < b + 149) → h' k = h k
/-- the best cost, if it is known, is the least -/
def Bst (S : Shp) (kn bs : Int) : Prop := (kn = 0 ∨ kn = 1) ∧ (kn = 1 → bs = lcS S (-1))
set_option maxHeartbeats 4000000 in
set_option maxRecDepth 100000 in
theorem k_BM_presentBest {d n : Nat} {h : PH} {b : Nat} {S : Shp} {sv tl kn bs : Int} {tx : Nat → Int} (hd : 14 ≤ d) (hk : Sok S) (hbst : Bst S kn bs) (hB : isBM n h b sv tx tl) (hQ : isShp n h (b + 2) S) (hN : isState n h (b + 1) kn bs) (hP : DrP n h (b + 88)) (hM : TmP n h (b + 91)) (hX : SxP n h (b + 118)) : CtrJ mX5_presentBest d [vR b] n h (fun x h' => x = lcS S (-1) ∧ isBM n h' b sv tx tl ∧ isShp n h' (b + 2) S ∧ (∃ kn' bs', isState n h' (b + 1) kn' bs' ∧ Bst S kn' bs') ∧ DrP n h' (b + 88) ∧ TmP n h' (b + 91) ∧ SxP n h' (b + 118) ∧ FrW h h' b) := by
  have hkn := hbst.1
  refine q_beginJ (L := [some (vR b)]) rfl ?_
  refine q_aload_n (pc' := 1) (dk_at dkX5_presentBest 0 rfl) rfl rfl ?_
  refine r_getf (pc' := 4) fl_RX5_10 (dk_at dkX5_presentBest 1 rfl) hB.obj rfl rfl ?_
  refine r_getf (pc' := 7) fl_RX5_82 (dk_at dkX5_presentBest 2 rfl) hN.obj rfl rfl ?_
  refine q_if_ne (tgt := 37) (pc' := 10) (dk_at dkX5_presentBest 3 rfl) rfl rfl (by omega) (fun c7 => ?_) (fun c7 => ?_)
  · refine q_aload_n (pc' := 38) (dk_at dkX5_presentBest 17 rfl) rfl rfl ?_
    refine r_getf (pc' := 41) fl_RX5_10 (dk_at dkX5_presentBest 18 rfl) hB.obj rfl rfl ?_
    refine r_getf (pc' := 44) fl_RX5_269 (dk_at dkX5_presentBest 19 rfl) hN.obj rfl rfl ?_
    refine r_lret rfl (dk_at dkX5_presentBest 20 rfl) ?_
    exact ⟨hbst.2 (by omega), hB, hQ, ⟨kn, bs, hN, hbst.1, hbst.2⟩, hP, hM, hX, fun k _ _ _ => rfl⟩
  · refine q_aload_n (pc' := 11) (dk_at dkX5_presentBest 4 rfl) rfl rfl ?_
    refine r_getf (pc' := 14) fl_RX5_10 (dk_at dkX5_presentBest 5 rfl) hB.obj rfl rfl ?_
    refine q_aload_n (pc' := 15) (dk_at dkX5_presentBest 6 rfl) rfl rfl ?_
    refine q_aload_n (pc' := 16) (dk_at dkX5_presentBest 7 rfl) rfl rfl ?_
    refine r_getf (pc' := 19) fl_RX5_10 (dk_at dkX5_presentBest 8 rfl) hB.obj rfl rfl ?_
    refine r_getf (pc' := 22) fl_RX5_63 (dk_at dkX5_presentBest 9 rfl) hN.obj rfl rfl ?_
    refine q_iconst (pc' := 23) (dk_at dkX5_presentBest 10 rfl) rfl ?_
    refine r_cVJ (pc' := 26) (As := [vR (b + 2), vI (-1)]) (S := [vR (b + 1)]) cv_RX5_199 (dk_at dkX5_presentBest 11 rfl) hB.obj rfl (k_BM_leastCost (d := 13) (q := b + 2) (by omega) hk (Or.inl rfl) (by omega) (by omega) hB hQ hP hM hX) (by omega) (Nat.zero_le _) (Nat.zero_le _) rfl (Nat.le_of_ble_eq_true rfl) rfl (Nat.le_of_ble_eq_true rfl) rfl (fun xx1 hh2 hphh2 => ?_)
    obtain ⟨hx, hB, hQ, hP, hM, hX, hm, hG1, hG2⟩ := hphh2
    have hN := isState.frm (isState.frm hN hG1 (by omega)) hG2 (by omega)
    refine r_putf (pc' := 29) fp_RX5_269 (dk_at dkX5_presentBest 12 rfl) hN.obj (Nat.le_of_ble_eq_true rfl) (PT_long _) rfl (fun hh3 ehh3 => ?_)
    have hB := hB.off ehh3 (by omega)
    have hQ := hQ.off ehh3 (by omega)
    have hN := hN.w_obj ehh3
    have hGa : Fr _ hh3 (b + 1) (b + 2) := Fr.rf.put ehh3 (by omega)
    have hP := hP.frm hGa (by omega)
    have hM := hM.frm hGa (by omega)
    have hX := hX.frm hGa (by omega)
    refine q_aload_n (pc' := 30) (dk_at dkX5_presentBest 13 rfl) rfl rfl ?_
    refine r_getf (pc' := 33) fl_RX5_10 (dk_at dkX5_presentBest 14 rfl) hB.obj rfl rfl ?_
    refine q_iconst (pc' := 34) (dk_at dkX5_presentBest 15 rfl) rfl ?_
    refine r_putf (pc' := 37) fp_RX5_82 (dk_at dkX5_presentBest 16 rfl) hN.obj (Nat.le_of_ble_eq_true rfl) (PT_bool (by omega)) rfl (fun hh4 ehh4 => ?_)
    have hB := hB.off ehh4 (by omega)
    have hQ := hQ.off ehh4 (by omega)
    have hN := hN.w_obj ehh4
    have hGb : Fr _ hh4 (b + 1) (b + 2) := Fr.rf.put ehh4 (by omega)
    have hP := hP.frm hGb (by omega)
    have hM := hM.frm hGb (by omega)
    have hX := hX.frm hGb (by omega)
    refine q_aload_n (pc' := 38) (dk_at dkX5_presentBest 17 rfl) rfl rfl ?_
    refine r_getf (pc' := 41) fl_RX5_10 (dk_at dkX5_presentBest 18 rfl) hB.obj rfl rfl ?_
    refine r_getf (pc' := 44) fl_RX5_269 (dk_at dkX5_presentBest 19 rfl) hN.obj rfl rfl ?_
    refine r_lret rfl (dk_at dkX5_presentBest 20 rfl) ?_
    exact ⟨hx, hB, hQ, ⟨_, _, hN, Or.inr rfl, fun _ => hx⟩, hP, hM, hX, fun k a b c => by rw [hGb k (by omega), hGa k (by omega), hG2 k (by omega), hG1 k (by omega)]⟩
