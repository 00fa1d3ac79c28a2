/-! State.takeFrom, isJob, clearText -/
/-- a state: its shop, its kept plan, its best cost -/
def StF (n : Nat) (h : PH) (a : Nat) (S : Shp) (P : PlS) (kn bs : Int) : Prop := isState n h a kn bs ∧ isShp n h (a + 1) S ∧ isPlS n h (a + 14) P
theorem StF.frm {n : Nat} {h h' : PH} {a : Nat} {S : Shp} {P : PlS} {kn bs : Int} {lo hi : Nat} (H : StF n h a S P kn bs) (E : Fr h h' lo hi) (hk : hi ≤ a ∨ a + 17 ≤ lo) : StF n h' a S P kn bs := ⟨isState.frm H.1 E (by omega), isShop.frm H.2.1 E (by omega), isPlan.frm H.2.2 E (by omega)⟩
set_option maxHeartbeats 4000000 in
set_option maxRecDepth 100000 in
theorem k_State_takeFrom {d n : Nat} {h : PH} {a c : Nat} {S S2 : Shp} {P1 P2 : PlS} {kn bs kn2 bs2 : Int} (hd : 2 ≤ d) (hk : Sok S2) (hkn : kn2 = 0 ∨ kn2 = 1) (hac : a + 17 ≤ c ∨ c + 17 ≤ a) (hA : StF n h a S P1 kn bs) (hC : StF n h c S2 P2 kn2 bs2) : CtrV mX3_takeFrom d [vR a, vR c] n h (fun h' => StF n h' a S2 P2 kn2 bs2 ∧ Fr h h' a (a + 17)) := by
  obtain ⟨hN, hS, hP⟩ := hA
  obtain ⟨hO, hQ, hR⟩ := hC
  have hF : Fr h h a (a + 17) := Fr.rf
  refine q_beginV (L := [some (vR a), some (vR c)]) rfl ?_
  refine q_aload_n (pc' := 1) (dk_at dkX3_takeFrom 0 rfl) rfl rfl ?_
  refine r_getf (pc' := 4) fl_RX3_10 (dk_at dkX3_takeFrom 1 rfl) hN.obj rfl rfl ?_
  refine q_aload_n (pc' := 5) (dk_at dkX3_takeFrom 2 rfl) rfl rfl ?_
  refine r_getf (pc' := 8) fl_RX3_10 (dk_at dkX3_takeFrom 3 rfl) hO.obj rfl rfl ?_
  refine r_cVV (pc' := 11) (As := [vR (c + 1)]) (S := []) cv_RX3_23 (dk_at dkX3_takeFrom 4 rfl) hS.obj rfl (k_Shop_takeFrom (d := 1) (by omega) (by omega) hk hS hQ) (by omega) (Nat.zero_le _) (Nat.zero_le _) rfl (Nat.le_of_ble_eq_true rfl) rfl (Nat.le_of_ble_eq_true rfl) rfl (fun hh2 hphh2 => ?_)
  obtain ⟨hS, hGf⟩ := hphh2
  have hN := isState.frm hN hGf (by omega)
  have hO := isState.frm hO hGf (by omega)
  have hP := isPlan.frm hP hGf (by omega)
  have hQ := isShop.frm hQ hGf (by omega)
  have hR := isPlan.frm hR hGf (by omega)
  have hF := hF.tr hGf (by omega)
  refine q_aload_n (pc' := 12) (dk_at dkX3_takeFrom 5 rfl) rfl rfl ?_
  refine r_getf (pc' := 15) fl_RX3_19 (dk_at dkX3_takeFrom 6 rfl) hN.obj rfl rfl ?_
  refine q_aload_n (pc' := 16) (dk_at dkX3_takeFrom 7 rfl) rfl rfl ?_
  refine r_getf (pc' := 19) fl_RX3_19 (dk_at dkX3_takeFrom 8 rfl) hO.obj rfl rfl ?_
  refine r_cVV (pc' := 22) (As := [vR (c + 14)]) (S := []) cv_RX3_27 (dk_at dkX3_takeFrom 9 rfl) hP.obj rfl (k_Plan_takeFrom (d := 1) (by omega) hP hR (by omega)) (by omega) (Nat.zero_le _) (Nat.zero_le _) rfl (Nat.le_of_ble_eq_true rfl) rfl (Nat.le_of_ble_eq_true rfl) rfl (fun hh4 hphh4 => ?_)
  obtain ⟨hP, hGf⟩ := hphh4
  have hN := isState.frm hN hGf (by omega)
  have hO := isState.frm hO hGf (by omega)
  have hS := isShop.frm hS hGf (by omega)
  have hQ := isShop.frm hQ hGf (by omega)
  have hR := isPlan.frm hR hGf (by omega)
  have hF := hF.tr hGf (by omega)
  refine q_aload_n (pc' := 23) (dk_at dkX3_takeFrom 10 rfl) rfl rfl ?_
  refine q_aload_n (pc' := 24) (dk_at dkX3_takeFrom 11 rfl) rfl rfl ?_
  refine r_getf (pc' := 27) fl_RX3_30 (dk_at dkX3_takeFrom 12 rfl) hO.obj rfl rfl ?_
  refine r_putf (pc' := 30) fp_RX3_30 (dk_at dkX3_takeFrom 13 rfl) hN.obj (Nat.le_of_ble_eq_true rfl) (PT_bool (by omega)) rfl (fun hh5 ehh5 => ?_)
  have hN := hN.w_obj ehh5
  have hO := hO.off ehh5 (by omega)
  have hS := hS.off ehh5 (by omega)
  have hP := hP.off ehh5 (by omega)
  have hQ := hQ.off ehh5 (by omega)
  have hR := hR.off ehh5 (by omega)
  have hF := hF.put ehh5 (by omega)
  refine q_aload_n (pc' := 31) (dk_at dkX3_takeFrom 14 rfl) rfl rfl ?_
  refine q_aload_n (pc' := 32) (dk_at dkX3_takeFrom 15 rfl) rfl rfl ?_
  refine r_getf (pc' := 35) fl_RX3_34 (dk_at dkX3_takeFrom 16 rfl) hO.obj rfl rfl ?_
  refine r_putf (pc' := 38) fp_RX3_34 (dk_at dkX3_takeFrom 17 rfl) hN.obj (Nat.le_of_ble_eq_true rfl) (PT_long _) rfl (fun hh6 ehh6 => ?_)
  have hN := hN.w_obj ehh6
  have hO := hO.off ehh6 (by omega)
  have hS := hS.off ehh6 (by omega)
  have hP := hP.off ehh6 (by omega)
  have hQ := hQ.off ehh6 (by omega)
  have hR := hR.off ehh6 (by omega)
  have hF := hF.put ehh6 (by omega)
  refine r_vret rfl (dk_at dkX3_takeFrom 18 rfl) ?_
  exact ⟨⟨hN, hS, hP⟩, hF⟩
