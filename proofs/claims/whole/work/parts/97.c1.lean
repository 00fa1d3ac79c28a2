/-! CONSTRUCTORS: new objects and what they hold -/
def Bel (h h' : PH) (b : Nat) : Prop := ∀ k, k < b → h' k = h k
theorem Bel.rf (h : PH) (b : Nat) : Bel h h b := fun _ _ => rfl
theorem Bel.tr {h h1 h2 : PH} {b c : Nat} (H : Bel h h1 b) (G : Bel h1 h2 c) (hc : b ≤ c) : Bel h h2 b := fun k hk => by rw [G k (by omega)]; exact H k hk
theorem Bel.put {h h1 h2 : PH} {b j : Nat} {c : PC} (H : Bel h h1 b) (E : h2 = hp h1 j c) (hj : b ≤ j) : Bel h h2 b := fun k hk => by rw [E, hp_ne (by omega)]; exact H k hk
theorem At1.gw {n n' : Nat} {h h' : PH} {k : Nat} {c : PC} (H : At1 n h k c) (hn : n ≤ n') (he : h' k = h k) : At1 n' h' k c := ⟨Nat.lt_of_lt_of_le H.1 hn, by rw [he]; exact H.2⟩
theorem isPlan.gw {n n' : Nat} {h h' : PH} {b : Nat} {x y : Int} {o e : Nat → Int} (H : isPlan n h b x y o e) (hn : n ≤ n') (he : ∀ k, b ≤ k → k < b + 3 → h' k = h k) : isPlan n' h' b x y o e :=
  ⟨H.1.gw hn (he _ (by omega) (by omega)), H.2.1.gw hn (he _ (by omega) (by omega)), H.2.2.gw hn (he _ (by omega) (by omega))⟩
theorem isShop.gw {n n' : Nat} {h h' : PH} {b : Nat} {x w e o : Int} {V U : Nat → Nat → Int} (H : isShop n h b x V U w e o) (hn : n ≤ n') (he : ∀ k, b ≤ k → k < b + 13 → h' k = h k) : isShop n' h' b x V U w e o :=
  ⟨H.1.gw hn (he _ (by omega) (by omega)), H.2.1.gw hn (he _ (by omega) (by omega)), fun i hi => (H.2.2.1 i hi).gw hn (he _ (by omega) (by omega)), H.2.2.2.1.gw hn (he _ (by omega) (by omega)), fun i hi => (H.2.2.2.2 i hi).gw hn (he _ (by omega) (by omega))⟩
theorem StS.gw {n n' : Nat} {h h' : PH} {a : Nat} {x : Snp} (H : StS n h a x) (hn : n ≤ n') (he : ∀ k, a ≤ k → k < a + 17 → h' k = h k) : StS n' h' a x :=
  ⟨At1.gw H.1 hn (he _ (by omega) (by omega)), isShop.gw H.2.1 hn (fun k h1 h2 => he k (by omega) (by omega)), isPlan.gw H.2.2 hn (fun k h1 h2 => he k (by omega) (by omega))⟩
theorem DrP.gw {n n' : Nat} {h h' : PH} {a : Nat} (H : DrP n h a) (hn : n ≤ n') (he : ∀ k, a ≤ k → k < a + 3 → h' k = h k) : DrP n' h' a := by
  obtain ⟨s, bc, o, e, h1, h2⟩ := H
  exact ⟨s, bc, o, e, h1.gw hn he, h2⟩
theorem ShA.gw {n n' : Nat} {h h' : PH} {a : Nat} (H : ShA n h a) (hn : n ≤ n') (he : ∀ k, a ≤ k → k < a + 13 → h' k = h k) : ShA n' h' a := by
  obtain ⟨U, h1⟩ := H
  exact ⟨U, isShop.gw h1 hn he⟩
theorem TmP.gw {n n' : Nat} {h h' : PH} {a : Nat} (H : TmP n h a) (hn : n ≤ n') (he : ∀ k, a ≤ k → k < a + 14 → h' k = h k) : TmP n' h' a := by
  obtain ⟨BV, JV, tot, fr, H⟩ := H
  exact ⟨BV, JV, tot, fr, H.1.gw hn (he _ (by omega) (by omega)), H.2.1.gw hn (he _ (by omega) (by omega)), H.2.2.1.gw hn (he _ (by omega) (by omega)), fun i hi => (H.2.2.2.1 i hi).gw hn (he _ (by omega) (by omega)), H.2.2.2.2.1.gw hn (he _ (by omega) (by omega)), fun i hi => (H.2.2.2.2.2 i hi).gw hn (he _ (by omega) (by omega))⟩
section
variable {M : MD} {d mc ms : Nat} {F : FT} {k u pc pc' : Nat} {L : List (Option PV)} {S : List PV} {n : Nat} {h : PH} {a : Bool}
theorem q_beginN {As : List PV} {post : Option PV → Nat → PH → Prop} (hL : entL M As = L) (kk : QW M d mc ms (FR a mc ms post) 0 0 0 L [] a n h) : Ctr M d mc ms a As n h post := by subst hL; exact kk
theorem r_new {i ci n' : Nat} {fs : List PV} (hN : NWk M.1 i ci fs) (hdg : decode M.2.2.1 pc = .ok (.new i, 3)) (hkc : k + 1 ≤ mc) (huc : u + fs.length ≤ ms) (hq : pc + 3 = pc') (hn : n + 1 = n') (kk : ∀ h', h' = hp h n (cO ci fs) → QW M d mc ms F (k + 1) (u + fs.length) pc' L (vR n :: S) true n' h') : QW M d mc ms F k u pc L S true n h := by
  subst hn; exact q_new hN hdg hkc huc hq (kk _ rfl)
theorem r_newI {x : Int} {n' : Nat} (N : Nat) (hx : x = (N : Int)) (hdg : decode M.2.2.1 pc = .ok (.newarray .int, 2)) (hb : N ≤ 100000000) (hkc : k + 1 ≤ mc) (huc : u + N ≤ ms) (hq : pc + 2 = pc') (hn : n + 1 = n') (kk : ∀ h', h' = hp h n (cI N (fun _ => 0)) → QW M d mc ms F (k + 1) (u + N) pc' L (vR n :: S) true n' h') : QW M d mc ms F k u pc L (vI x :: S) true n h := by
  subst hn; exact q_newI N hx ka_int hdg hb hkc huc hq (kk _ rfl)
theorem r_newJ {x : Int} {n' : Nat} (N : Nat) (hx : x = (N : Int)) (hdg : decode M.2.2.1 pc = .ok (.newarray .long, 2)) (hb : N ≤ 50000000) (hkc : k + 1 ≤ mc) (huc : u + N ≤ ms) (hq : pc + 2 = pc') (hn : n + 1 = n') (kk : ∀ h', h' = hp h n (cJ N (fun _ => 0)) → QW M d mc ms F (k + 1) (u + N) pc' L (vR n :: S) true n' h') : QW M d mc ms F k u pc L (vI x :: S) true n h := by
  subst hn; exact q_newJ N hx ka_long hdg hb hkc huc hq (kk _ rfl)
theorem r_newS {i n' : Nat} {x : Int} (N : Nat) (hx : x = (N : Int)) (hw : Cond.classLink M.1 i "BatchMachine$State" ∈ TB) (hdg : decode M.2.2.1 pc = .ok (.anewarray i, 3)) (hb : N ≤ 100000000) (hkc : k + 1 ≤ mc) (huc : u + N ≤ ms) (hq : pc + 3 = pc') (hn : n + 1 = n') (kk : ∀ h', h' = hp h n (cR 0 N (fun _ => none)) → QW M d mc ms F (k + 1) (u + N) pc' L (vR n :: S) true n' h') : QW M d mc ms F k u pc L (vI x :: S) true n h := by
  subst hn; exact q_newS N hx hw hdg hb hkc huc hq (kk _ rfl)
theorem r_newII {i n' : Nat} {x y : Int} (N Q : Nat) (hx : x = (N : Int)) (hy : y = (Q : Int)) (hw : Cond.classLink M.1 i "[[I" ∈ TB) (hdg : decode M.2.2.1 pc = .ok (.multianewarray i 2, 4)) (hb : N ≤ 1000000) (hb2 : Q ≤ 1000000) (hkc : k + 1 + N ≤ mc) (huc : u + N + N * Q ≤ ms) (hq : pc + 4 = pc') (hn : n + 1 + N = n') (kk : ∀ h', h' = hpII h n N Q → QW M d mc ms F (k + 1 + N) (u + N + N * Q) pc' L (vR n :: S) true n' h') : QW M d mc ms F k u pc L (vI y :: vI x :: S) true n h := by
  subst hn; exact q_newII N Q hx hy hw ka_int hdg hb hb2 hkc huc hq (kk _ rfl)
end
theorem hpII_o {h : PH} {n N Q : Nat} : hpII h n N Q n = cR 1 N (rowsF (n + 1) N) := if_pos rfl
theorem hpII_r {h : PH} {n N Q i : Nat} (hi : i < N) : hpII h n N Q (n + 1 + i) = cI Q (fun _ => 0) := by
  unfold hpII
  rw [if_neg (by omega), if_pos (by omega)]
theorem hpII_n {h : PH} {n N Q j : Nat} (hj : j < n) : hpII h n N Q j = h j := by
  unfold hpII
  rw [if_neg (by omega), if_neg (by omega)]
def S00 : Shp := (0, fun _ _ => 0, fun _ _ => 0, 0, 1, 1)
def P00 : PlS := (0, 0, fun _ => 0, fun _ => 0)
def sn0 : Snp := (S00, P00, 0, 0)
set_option maxHeartbeats 4000000 in
set_option maxRecDepth 100000 in
theorem k_init0 {d b : Nat} {h : PH} (e0 : h b = cO 0 [vI 0, vI 0, vN, vN]) (hd : 1 ≤ d) : Ctr mX0_init d 2 16 true [vR b] (b + 1) h (fun r n' h' => r = none ∧ n' = b + 3 ∧ isPlS (b + 3) h' b P00 ∧ Bel h h' b) := by
  have hB := Bel.rf h b
  refine q_beginN (L := [some (vR b)]) rfl ?_
  refine q_aload_n (pc' := 1) (dk_at dkX0_init 0 rfl) rfl rfl ?_
  refine q_objInit (pc' := 4) jo_RX0_3 (dk_at dkX0_init 1 rfl) (by omega) (Nat.zero_le _) rfl ?_
  refine q_aload_n (pc' := 5) (dk_at dkX0_init 2 rfl) rfl rfl ?_
  refine q_bipush (pc' := 7) (dk_at dkX0_init 3 rfl) (by decide +kernel) rfl ?_
  refine r_newI (pc' := 9) (n' := b + 2) 8 rfl (dk_at dkX0_init 4 rfl) (by decide) (by decide) (by decide) rfl (by omega) (fun h1 Eh1 => ?_)
  have e1 : h1 (b + 1) = cI 8 (fun _ => 0) := by rw [Eh1, hp_eq]
  have e0 : h1 b = cO 0 [vI 0, vI 0, vN, vN] := by rw [Eh1, hp_ne (by omega)]; exact e0
  have hB := hB.put Eh1 (by omega)
  refine r_putF (pc' := 12) fp_RX0_9 rfl (dk_at dkX0_init 5 rfl) ⟨by omega, e0⟩ (Nat.le_of_ble_eq_true rfl) (PT_arr _ _) rfl (fun h2 Eh2 => ?_)
  have e0 : h2 b = cO 0 [vI 0, vI 0, vR (b + 1), vN] := by rw [Eh2, hp_eq]; rfl
  have e1 : h2 (b + 1) = cI 8 (fun _ => 0) := by rw [Eh2, hp_ne (by omega)]; exact e1
  have hB := hB.put Eh2 (by omega)
  refine q_aload_n (pc' := 13) (dk_at dkX0_init 6 rfl) rfl rfl ?_
  refine q_bipush (pc' := 15) (dk_at dkX0_init 7 rfl) (by decide +kernel) rfl ?_
  refine r_newI (pc' := 17) (n' := b + 3) 8 rfl (dk_at dkX0_init 8 rfl) (by decide) (by decide) (by decide) rfl (by omega) (fun h3 Eh3 => ?_)
  have e2 : h3 (b + 2) = cI 8 (fun _ => 0) := by rw [Eh3, hp_eq]
  have e0 : h3 b = cO 0 [vI 0, vI 0, vR (b + 1), vN] := by rw [Eh3, hp_ne (by omega)]; exact e0
  have e1 : h3 (b + 1) = cI 8 (fun _ => 0) := by rw [Eh3, hp_ne (by omega)]; exact e1
  have hB := hB.put Eh3 (by omega)
  refine r_putF (pc' := 20) fp_RX0_15 rfl (dk_at dkX0_init 9 rfl) ⟨by omega, e0⟩ (Nat.le_of_ble_eq_true rfl) (PT_arr _ _) rfl (fun h4 Eh4 => ?_)
  have e0 : h4 b = cO 0 [vI 0, vI 0, vR (b + 1), vR (b + 2)] := by rw [Eh4, hp_eq]; rfl
  have e1 : h4 (b + 1) = cI 8 (fun _ => 0) := by rw [Eh4, hp_ne (by omega)]; exact e1
  have e2 : h4 (b + 2) = cI 8 (fun _ => 0) := by rw [Eh4, hp_ne (by omega)]; exact e2
  have hB := hB.put Eh4 (by omega)
  refine q_vret rfl (dk_at dkX0_init 10 rfl) (by decide) (by decide) ?_
  exact ⟨rfl, rfl, ⟨⟨by omega, e0⟩, ⟨by omega, e1⟩, ⟨by omega, e2⟩⟩, hB⟩

set_option maxHeartbeats 4000000 in
set_option maxRecDepth 100000 in
theorem k_init2 {d b : Nat} {h : PH} (e0 : h b = cO 2 [vI 0, vN, vN, vI 0, vI 0, vI 0]) (hd : 1 ≤ d) : Ctr mX2_init d 12 70 true [vR b] (b + 1) h (fun r n' h' => r = none ∧ n' = b + 13 ∧ isShp (b + 13) h' b S00 ∧ Bel h h' b) := by
  have hB := Bel.rf h b
  refine q_beginN (L := [some (vR b)]) rfl ?_
  refine q_aload_n (pc' := 1) (dk_at dkX2_init 0 rfl) rfl rfl ?_
  refine q_objInit (pc' := 4) jo_RX2_3 (dk_at dkX2_init 1 rfl) (by omega) (Nat.zero_le _) rfl ?_
  refine q_aload_n (pc' := 5) (dk_at dkX2_init 2 rfl) rfl rfl ?_
  refine q_iconst (pc' := 6) (dk_at dkX2_init 3 rfl) rfl ?_
  refine q_bipush (pc' := 8) (dk_at dkX2_init 4 rfl) (by decide +kernel) rfl ?_
  refine r_newII (pc' := 12) (n' := b + 7) 5 8 rfl rfl kl_RX2_9 (dk_at dkX2_init 5 rfl) (by decide) (by decide) (by decide) (by decide) rfl (by omega) (fun h1 Eh1 => ?_)
  have e1 : h1 (b + 1) = cR 1 5 (rowsF (b + 2) 5) := by rw [Eh1]; exact hpII_o
  have r2 : ∀ i, i < 5 → h1 (b + 2 + i) = cI 8 (fun _ => 0) := fun i hi => by rw [Eh1]; exact hpII_r hi
  have e0 : h1 b = cO 2 [vI 0, vN, vN, vI 0, vI 0, vI 0] := by rw [Eh1, hpII_n (by omega)]; exact e0
  have hB : Bel h h1 b := fun k hk => by rw [Eh1]; exact (hpII_n (by omega)).trans (hB k hk)
  refine r_putF (pc' := 15) fp_RX2_11 rfl (dk_at dkX2_init 6 rfl) ⟨by omega, e0⟩ (Nat.le_of_ble_eq_true rfl) (PT_arr _ _) rfl (fun h2 Eh2 => ?_)
  have e0 : h2 b = cO 2 [vI 0, vR (b + 1), vN, vI 0, vI 0, vI 0] := by rw [Eh2, hp_eq]; rfl
  have e1 : h2 (b + 1) = cR 1 5 (rowsF (b + 2) 5) := by rw [Eh2, hp_ne (by omega)]; exact e1
  have r2 : ∀ i, i < 5 → h2 (b + 2 + i) = cI 8 (fun _ => 0) := fun i hi => by rw [Eh2, hp_ne (by omega)]; exact r2 i hi
  have hB := hB.put Eh2 (by omega)
  refine q_aload_n (pc' := 16) (dk_at dkX2_init 7 rfl) rfl rfl ?_
  refine q_iconst (pc' := 17) (dk_at dkX2_init 8 rfl) rfl ?_
  refine q_iconst (pc' := 18) (dk_at dkX2_init 9 rfl) rfl ?_
  refine r_newII (pc' := 22) (n' := b + 13) 5 4 rfl rfl kl_RX2_9 (dk_at dkX2_init 10 rfl) (by decide) (by decide) (by decide) (by decide) rfl (by omega) (fun h3 Eh3 => ?_)
  have e7 : h3 (b + 7) = cR 1 5 (rowsF (b + 8) 5) := by rw [Eh3]; exact hpII_o
  have r8 : ∀ i, i < 5 → h3 (b + 8 + i) = cI 4 (fun _ => 0) := fun i hi => by rw [Eh3]; exact hpII_r hi
  have e0 : h3 b = cO 2 [vI 0, vR (b + 1), vN, vI 0, vI 0, vI 0] := by rw [Eh3, hpII_n (by omega)]; exact e0
  have e1 : h3 (b + 1) = cR 1 5 (rowsF (b + 2) 5) := by rw [Eh3, hpII_n (by omega)]; exact e1
  have r2 : ∀ i, i < 5 → h3 (b + 2 + i) = cI 8 (fun _ => 0) := fun i hi => by rw [Eh3, hpII_n (by omega)]; exact r2 i hi
  have hB : Bel h h3 b := fun k hk => by rw [Eh3]; exact (hpII_n (by omega)).trans (hB k hk)
  refine r_putF (pc' := 25) fp_RX2_16 rfl (dk_at dkX2_init 11 rfl) ⟨by omega, e0⟩ (Nat.le_of_ble_eq_true rfl) (PT_arr _ _) rfl (fun h4 Eh4 => ?_)
  have e0 : h4 b = cO 2 [vI 0, vR (b + 1), vR (b + 7), vI 0, vI 0, vI 0] := by rw [Eh4, hp_eq]; rfl
  have e1 : h4 (b + 1) = cR 1 5 (rowsF (b + 2) 5) := by rw [Eh4, hp_ne (by omega)]; exact e1
  have e7 : h4 (b + 7) = cR 1 5 (rowsF (b + 8) 5) := by rw [Eh4, hp_ne (by omega)]; exact e7
  have r2 : ∀ i, i < 5 → h4 (b + 2 + i) = cI 8 (fun _ => 0) := fun i hi => by rw [Eh4, hp_ne (by omega)]; exact r2 i hi
  have r8 : ∀ i, i < 5 → h4 (b + 8 + i) = cI 4 (fun _ => 0) := fun i hi => by rw [Eh4, hp_ne (by omega)]; exact r8 i hi
  have hB := hB.put Eh4 (by omega)
  refine q_aload_n (pc' := 26) (dk_at dkX2_init 12 rfl) rfl rfl ?_
  refine q_iconst (pc' := 27) (dk_at dkX2_init 13 rfl) rfl ?_
  refine r_putf (pc' := 30) fp_RX2_19 (dk_at dkX2_init 14 rfl) ⟨by omega, e0⟩ (Nat.le_of_ble_eq_true rfl) (PT_bool (by decide)) rfl (fun h5 Eh5 => ?_)
  have e0 : h5 b = cO 2 [vI 0, vR (b + 1), vR (b + 7), vI 0, vI 1, vI 0] := by rw [Eh5, hp_eq]; rfl
  have e1 : h5 (b + 1) = cR 1 5 (rowsF (b + 2) 5) := by rw [Eh5, hp_ne (by omega)]; exact e1
  have e7 : h5 (b + 7) = cR 1 5 (rowsF (b + 8) 5) := by rw [Eh5, hp_ne (by omega)]; exact e7
  have r2 : ∀ i, i < 5 → h5 (b + 2 + i) = cI 8 (fun _ => 0) := fun i hi => by rw [Eh5, hp_ne (by omega)]; exact r2 i hi
  have r8 : ∀ i, i < 5 → h5 (b + 8 + i) = cI 4 (fun _ => 0) := fun i hi => by rw [Eh5, hp_ne (by omega)]; exact r8 i hi
  have hB := hB.put Eh5 (by omega)
  refine q_aload_n (pc' := 31) (dk_at dkX2_init 15 rfl) rfl rfl ?_
  refine q_iconst (pc' := 32) (dk_at dkX2_init 16 rfl) rfl ?_
  refine r_putf (pc' := 35) fp_RX2_23 (dk_at dkX2_init 17 rfl) ⟨by omega, e0⟩ (Nat.le_of_ble_eq_true rfl) (PT_int _) rfl (fun h6 Eh6 => ?_)
  have e0 : h6 b = cO 2 [vI 0, vR (b + 1), vR (b + 7), vI 0, vI 1, vI 1] := by rw [Eh6, hp_eq]; rfl
  have e1 : h6 (b + 1) = cR 1 5 (rowsF (b + 2) 5) := by rw [Eh6, hp_ne (by omega)]; exact e1
  have e7 : h6 (b + 7) = cR 1 5 (rowsF (b + 8) 5) := by rw [Eh6, hp_ne (by omega)]; exact e7
  have r2 : ∀ i, i < 5 → h6 (b + 2 + i) = cI 8 (fun _ => 0) := fun i hi => by rw [Eh6, hp_ne (by omega)]; exact r2 i hi
  have r8 : ∀ i, i < 5 → h6 (b + 8 + i) = cI 4 (fun _ => 0) := fun i hi => by rw [Eh6, hp_ne (by omega)]; exact r8 i hi
  have hB := hB.put Eh6 (by omega)
  refine q_vret rfl (dk_at dkX2_init 18 rfl) (by decide) (by decide) ?_
  exact ⟨rfl, rfl, ⟨⟨by omega, e0⟩, ⟨by omega, e1⟩, fun i hi => ⟨by omega, r2 i hi⟩, ⟨by omega, e7⟩, fun i hi => ⟨by omega, r8 i hi⟩⟩, hB⟩

theorem isShp.gw {n n' : Nat} {h h' : PH} {b : Nat} {S : Shp} (H : isShp n h b S) (hn : n ≤ n') (he : ∀ k, b ≤ k → k < b + 13 → h' k = h k) : isShp n' h' b S := isShop.gw H hn he
theorem isPlS.gw {n n' : Nat} {h h' : PH} {b : Nat} {P : PlS} (H : isPlS n h b P) (hn : n ≤ n') (he : ∀ k, b ≤ k → k < b + 3 → h' k = h k) : isPlS n' h' b P := isPlan.gw H hn he
set_option maxHeartbeats 4000000 in
set_option maxRecDepth 100000 in
theorem k_init3 {d b : Nat} {h : PH} (e0 : h b = cO 3 [vN, vN, vI 0, vJ 0]) (hd : 2 ≤ d) : Ctr mX3_init d 16 96 true [vR b] (b + 1) h (fun r n' h' => r = none ∧ n' = b + 17 ∧ StS (b + 17) h' b sn0 ∧ Bel h h' b) := by
  have hB := Bel.rf h b
  refine q_beginN (L := [some (vR b)]) rfl ?_
  refine q_aload_n (pc' := 1) (dk_at dkX3_init 0 rfl) rfl rfl ?_
  refine q_objInit (pc' := 4) jo_RX3_1 (dk_at dkX3_init 1 rfl) (by omega) (Nat.zero_le _) rfl ?_
  refine q_aload_n (pc' := 5) (dk_at dkX3_init 2 rfl) rfl rfl ?_
  refine r_new (pc' := 8) (n' := b + 2) nw_RX3_7 (dk_at dkX3_init 3 rfl) (by decide) (by decide) rfl (by omega) (fun h1 Eh1 => ?_)
  have e1 : h1 (b + 1) = cO 2 [vI 0, vN, vN, vI 0, vI 0, vI 0] := by rw [Eh1, hp_eq]
  have e0 : h1 b = cO 3 [vN, vN, vI 0, vJ 0] := by rw [Eh1, hp_ne (by omega)]; exact e0
  have hB := hB.put Eh1 (by omega)
  refine q_dup (pc' := 9) (fun _ => rfl) (dk_at dkX3_init 4 rfl) rfl ?_
  refine q_callIN (pc' := 12) (mc' := 12) (ms' := 70) ci_RX3_9 (dk_at dkX3_init 5 rfl) (k_init2 (d := 1) (b := b + 1) e1 (by omega)) (by omega) (by decide) (by decide) (Nat.le_of_ble_eq_true rfl) (Nat.le_of_ble_eq_true rfl) rfl ?_
  rintro r n1 h2 ⟨hr, hn1, p1, hb1⟩
  subst hr
  subst hn1
  show QW _ _ _ _ _ _ _ _ _ [vR (b + 1), vR b] _ (b + 14) _
  have e0 : h2 b = cO 3 [vN, vN, vI 0, vJ 0] := by rw [hb1 _ (by omega)]; exact e0
  have hB := hB.tr hb1 (by omega)
  refine r_putF (pc' := 15) fp_RX3_10 rfl (dk_at dkX3_init 6 rfl) ⟨by omega, e0⟩ (Nat.le_of_ble_eq_true rfl) (PT_obj _ _) rfl (fun h3 Eh3 => ?_)
  have e0 : h3 b = cO 3 [vR (b + 1), vN, vI 0, vJ 0] := by rw [Eh3, hp_eq]; rfl
  have p1 := p1.gw (n' := b + 14) (h' := h3) (by omega) (fun k k1 k2 => by rw [Eh3, hp_ne (by omega)])
  have hB := hB.put Eh3 (by omega)
  refine q_aload_n (pc' := 16) (dk_at dkX3_init 7 rfl) rfl rfl ?_
  refine r_new (pc' := 19) (n' := b + 15) nw_RX3_16 (dk_at dkX3_init 8 rfl) (by decide) (by decide) rfl (by omega) (fun h4 Eh4 => ?_)
  have e14 : h4 (b + 14) = cO 0 [vI 0, vI 0, vN, vN] := by rw [Eh4, hp_eq]
  have e0 : h4 b = cO 3 [vR (b + 1), vN, vI 0, vJ 0] := by rw [Eh4, hp_ne (by omega)]; exact e0
  have p1 := p1.gw (n' := b + 15) (h' := h4) (by omega) (fun k k1 k2 => by rw [Eh4, hp_ne (by omega)])
  have hB := hB.put Eh4 (by omega)
  refine q_dup (pc' := 20) (fun _ => rfl) (dk_at dkX3_init 9 rfl) rfl ?_
  refine q_callIN (pc' := 23) (mc' := 2) (ms' := 16) ci_RX3_18 (dk_at dkX3_init 10 rfl) (k_init0 (d := 1) (b := b + 14) e14 (by omega)) (by omega) (by decide) (by decide) (Nat.le_of_ble_eq_true rfl) (Nat.le_of_ble_eq_true rfl) rfl ?_
  rintro r n1 h5 ⟨hr, hn1, p14, hb1⟩
  subst hr
  subst hn1
  show QW _ _ _ _ _ _ _ _ _ [vR (b + 14), vR b] _ (b + 17) _
  have e0 : h5 b = cO 3 [vR (b + 1), vN, vI 0, vJ 0] := by rw [hb1 _ (by omega)]; exact e0
  have p1 := p1.gw (n' := b + 17) (h' := h5) (by omega) (fun k k1 k2 => hb1 k (by omega))
  have hB := hB.tr hb1 (by omega)
  refine r_putF (pc' := 26) fp_RX3_19 rfl (dk_at dkX3_init 11 rfl) ⟨by omega, e0⟩ (Nat.le_of_ble_eq_true rfl) (PT_obj _ _) rfl (fun h6 Eh6 => ?_)
  have e0 : h6 b = cO 3 [vR (b + 1), vR (b + 14), vI 0, vJ 0] := by rw [Eh6, hp_eq]; rfl
  have p1 := p1.gw (n' := b + 17) (h' := h6) (by omega) (fun k k1 k2 => by rw [Eh6, hp_ne (by omega)])
  have p14 := p14.gw (n' := b + 17) (h' := h6) (by omega) (fun k k1 k2 => by rw [Eh6, hp_ne (by omega)])
  have hB := hB.put Eh6 (by omega)
  refine q_vret rfl (dk_at dkX3_init 12 rfl) (by decide) (by decide) ?_
  exact ⟨rfl, rfl, ⟨⟨by omega, e0⟩, p1, p14⟩, hB⟩

set_option maxHeartbeats 4000000 in
set_option maxRecDepth 100000 in
theorem k_init4 {d b : Nat} {h : PH} (e0 : h b = cO 4 [vN, vN, vN, vI 0]) (hd : 1 ≤ d) : Ctr mX4_init d 13 93 true [vR b] (b + 1) h (fun r n' h' => r = none ∧ n' = b + 14 ∧ TmP (b + 14) h' b ∧ Bel h h' b) := by
  have hB := Bel.rf h b
  refine q_beginN (L := [some (vR b)]) rfl ?_
  refine q_aload_n (pc' := 1) (dk_at dkX4_init 0 rfl) rfl rfl ?_
  refine q_objInit (pc' := 4) jo_RX4_3 (dk_at dkX4_init 1 rfl) (by omega) (Nat.zero_le _) rfl ?_
  refine q_aload_n (pc' := 5) (dk_at dkX4_init 2 rfl) rfl rfl ?_
  refine q_bipush (pc' := 7) (dk_at dkX4_init 3 rfl) (by decide +kernel) rfl ?_
  refine q_bipush (pc' := 9) (dk_at dkX4_init 4 rfl) (by decide +kernel) rfl ?_
  refine r_newII (pc' := 13) (n' := b + 8) 6 8 rfl rfl kl_RX4_11 (dk_at dkX4_init 5 rfl) (by decide) (by decide) (by decide) (by decide) rfl (by omega) (fun h1 Eh1 => ?_)
  have e1 : h1 (b + 1) = cR 1 6 (rowsF (b + 2) 6) := by rw [Eh1]; exact hpII_o
  have r2 : ∀ i, i < 6 → h1 (b + 2 + i) = cI 8 (fun _ => 0) := fun i hi => by rw [Eh1]; exact hpII_r hi
  have e0 : h1 b = cO 4 [vN, vN, vN, vI 0] := by rw [Eh1, hpII_n (by omega)]; exact e0
  have hB : Bel h h1 b := fun k hk => by rw [Eh1]; exact (hpII_n (by omega)).trans (hB k hk)
  refine r_putF (pc' := 16) fp_RX4_13 rfl (dk_at dkX4_init 6 rfl) ⟨by omega, e0⟩ (Nat.le_of_ble_eq_true rfl) (PT_arr _ _) rfl (fun h2 Eh2 => ?_)
  have e0 : h2 b = cO 4 [vR (b + 1), vN, vN, vI 0] := by rw [Eh2, hp_eq]; rfl
  have e1 : h2 (b + 1) = cR 1 6 (rowsF (b + 2) 6) := by rw [Eh2, hp_ne (by omega)]; exact e1
  have r2 : ∀ i, i < 6 → h2 (b + 2 + i) = cI 8 (fun _ => 0) := fun i hi => by rw [Eh2, hp_ne (by omega)]; exact r2 i hi
  have hB := hB.put Eh2 (by omega)
  refine q_aload_n (pc' := 17) (dk_at dkX4_init 7 rfl) rfl rfl ?_
  refine q_iconst (pc' := 18) (dk_at dkX4_init 8 rfl) rfl ?_
  refine q_bipush (pc' := 20) (dk_at dkX4_init 9 rfl) (by decide +kernel) rfl ?_
  refine r_newII (pc' := 24) (n' := b + 13) 4 8 rfl rfl kl_RX4_11 (dk_at dkX4_init 10 rfl) (by decide) (by decide) (by decide) (by decide) rfl (by omega) (fun h3 Eh3 => ?_)
  have e8 : h3 (b + 8) = cR 1 4 (rowsF (b + 9) 4) := by rw [Eh3]; exact hpII_o
  have r9 : ∀ i, i < 4 → h3 (b + 9 + i) = cI 8 (fun _ => 0) := fun i hi => by rw [Eh3]; exact hpII_r hi
  have e0 : h3 b = cO 4 [vR (b + 1), vN, vN, vI 0] := by rw [Eh3, hpII_n (by omega)]; exact e0
  have e1 : h3 (b + 1) = cR 1 6 (rowsF (b + 2) 6) := by rw [Eh3, hpII_n (by omega)]; exact e1
  have r2 : ∀ i, i < 6 → h3 (b + 2 + i) = cI 8 (fun _ => 0) := fun i hi => by rw [Eh3, hpII_n (by omega)]; exact r2 i hi
  have hB : Bel h h3 b := fun k hk => by rw [Eh3]; exact (hpII_n (by omega)).trans (hB k hk)
  refine r_putF (pc' := 27) fp_RX4_16 rfl (dk_at dkX4_init 11 rfl) ⟨by omega, e0⟩ (Nat.le_of_ble_eq_true rfl) (PT_arr _ _) rfl (fun h4 Eh4 => ?_)
  have e0 : h4 b = cO 4 [vR (b + 1), vR (b + 8), vN, vI 0] := by rw [Eh4, hp_eq]; rfl
  have e1 : h4 (b + 1) = cR 1 6 (rowsF (b + 2) 6) := by rw [Eh4, hp_ne (by omega)]; exact e1
  have e8 : h4 (b + 8) = cR 1 4 (rowsF (b + 9) 4) := by rw [Eh4, hp_ne (by omega)]; exact e8
  have r2 : ∀ i, i < 6 → h4 (b + 2 + i) = cI 8 (fun _ => 0) := fun i hi => by rw [Eh4, hp_ne (by omega)]; exact r2 i hi
  have r9 : ∀ i, i < 4 → h4 (b + 9 + i) = cI 8 (fun _ => 0) := fun i hi => by rw [Eh4, hp_ne (by omega)]; exact r9 i hi
  have hB := hB.put Eh4 (by omega)
  refine q_aload_n (pc' := 28) (dk_at dkX4_init 12 rfl) rfl rfl ?_
  refine q_iconst (pc' := 29) (dk_at dkX4_init 13 rfl) rfl ?_
  refine r_newI (pc' := 31) (n' := b + 14) 3 rfl (dk_at dkX4_init 14 rfl) (by decide) (by decide) (by decide) rfl (by omega) (fun h5 Eh5 => ?_)
  have e13 : h5 (b + 13) = cI 3 (fun _ => 0) := by rw [Eh5, hp_eq]
  have e0 : h5 b = cO 4 [vR (b + 1), vR (b + 8), vN, vI 0] := by rw [Eh5, hp_ne (by omega)]; exact e0
  have e1 : h5 (b + 1) = cR 1 6 (rowsF (b + 2) 6) := by rw [Eh5, hp_ne (by omega)]; exact e1
  have e8 : h5 (b + 8) = cR 1 4 (rowsF (b + 9) 4) := by rw [Eh5, hp_ne (by omega)]; exact e8
  have r2 : ∀ i, i < 6 → h5 (b + 2 + i) = cI 8 (fun _ => 0) := fun i hi => by rw [Eh5, hp_ne (by omega)]; exact r2 i hi
  have r9 : ∀ i, i < 4 → h5 (b + 9 + i) = cI 8 (fun _ => 0) := fun i hi => by rw [Eh5, hp_ne (by omega)]; exact r9 i hi
  have hB := hB.put Eh5 (by omega)
  refine r_putF (pc' := 34) fp_RX4_19 rfl (dk_at dkX4_init 15 rfl) ⟨by omega, e0⟩ (Nat.le_of_ble_eq_true rfl) (PT_arr _ _) rfl (fun h6 Eh6 => ?_)
  have e0 : h6 b = cO 4 [vR (b + 1), vR (b + 8), vR (b + 13), vI 0] := by rw [Eh6, hp_eq]; rfl
  have e1 : h6 (b + 1) = cR 1 6 (rowsF (b + 2) 6) := by rw [Eh6, hp_ne (by omega)]; exact e1
  have e8 : h6 (b + 8) = cR 1 4 (rowsF (b + 9) 4) := by rw [Eh6, hp_ne (by omega)]; exact e8
  have e13 : h6 (b + 13) = cI 3 (fun _ => 0) := by rw [Eh6, hp_ne (by omega)]; exact e13
  have r2 : ∀ i, i < 6 → h6 (b + 2 + i) = cI 8 (fun _ => 0) := fun i hi => by rw [Eh6, hp_ne (by omega)]; exact r2 i hi
  have r9 : ∀ i, i < 4 → h6 (b + 9 + i) = cI 8 (fun _ => 0) := fun i hi => by rw [Eh6, hp_ne (by omega)]; exact r9 i hi
  have hB := hB.put Eh6 (by omega)
  refine q_vret rfl (dk_at dkX4_init 16 rfl) (by decide) (by decide) ?_
  exact ⟨rfl, rfl, ⟨(fun _ _ => 0), (fun _ _ => 0), (fun _ => 0), 0, ⟨by omega, e0⟩, ⟨by omega, e13⟩, ⟨by omega, e1⟩, fun i hi => ⟨by omega, r2 i hi⟩, ⟨by omega, e8⟩, fun i hi => ⟨by omega, r9 i hi⟩⟩, hB⟩

theorem SxP.gw {n n' : Nat} {h h' : PH} {b : Nat} (H : SxP n h b) (hn : n ≤ n') (he : ∀ k, b ≤ k → k < b + 31 → h' k = h k) : SxP n' h' b := by
  obtain ⟨S, fc, fo, al, fi, bs, fl, sc, st, fa, re, wo, lg, rk, ch, sC, sT, sX, G, H, hS, hr⟩ := H
  refine ⟨S, fc, fo, al, fi, bs, fl, sc, st, fa, re, wo, lg, rk, ch, sC, sT, sX, G, ?_, hS.gw hn (fun k h1 h2 => he k (by omega) (by omega)), hr⟩
  obtain ⟨c0, c1, c2, c3, c4, c5, c6, c7, c8, c9, c10, c11, c12, c13⟩ := H
  exact ⟨c0.gw hn (he _ (by omega) (by omega)), c1.gw hn (he _ (by omega) (by omega)), c2.gw hn (he _ (by omega) (by omega)), c3.gw hn (he _ (by omega) (by omega)), c4.gw hn (he _ (by omega) (by omega)), c5.gw hn (he _ (by omega) (by omega)), c6.gw hn (he _ (by omega) (by omega)), c7.gw hn (he _ (by omega) (by omega)), c8.gw hn (he _ (by omega) (by omega)), c9.gw hn (he _ (by omega) (by omega)), c10.gw hn (he _ (by omega) (by omega)), c11.gw hn (he _ (by omega) (by omega)), c12.gw hn (he _ (by omega) (by omega)), fun i hi => (c13 i hi).gw hn (he _ (by omega) (by omega))⟩
set_option maxHeartbeats 4000000 in
set_option maxRecDepth 100000 in
theorem k_init1 {d b : Nat} {h : PH} (e0 : h b = cO 1 [vN, vI 0, vI 0, vJ 0, vJ 0, vI 0, vN, vN, vN, vN, vN, vN, vN, vN, vN, vI 0, vN, vN, vN]) (hd : 2 ≤ d) : Ctr mX1_init d 30 8321 true [vR b] (b + 1) h (fun r n' h' => r = none ∧ n' = b + 31 ∧ SxP (b + 31) h' b ∧ Bel h h' b) := by
  have hB := Bel.rf h b
  refine q_beginN (L := [some (vR b)]) rfl ?_
  refine q_aload_n (pc' := 1) (dk_at dkX1_init 0 rfl) rfl rfl ?_
  refine q_objInit (pc' := 4) jo_RX1_3 (dk_at dkX1_init 1 rfl) (by omega) (Nat.zero_le _) rfl ?_
  refine q_aload_n (pc' := 5) (dk_at dkX1_init 2 rfl) rfl rfl ?_
  refine r_new (pc' := 8) (n' := b + 2) nw_RX1_9 (dk_at dkX1_init 3 rfl) (by decide) (by decide) rfl (by omega) (fun h1 Eh1 => ?_)
  have e1 : h1 (b + 1) = cO 2 [vI 0, vN, vN, vI 0, vI 0, vI 0] := by rw [Eh1, hp_eq]
  have e0 : h1 b = cO 1 [vN, vI 0, vI 0, vJ 0, vJ 0, vI 0, vN, vN, vN, vN, vN, vN, vN, vN, vN, vI 0, vN, vN, vN] := by rw [Eh1, hp_ne (by omega)]; exact e0
  have hB := hB.put Eh1 (by omega)
  refine q_dup (pc' := 9) (fun _ => rfl) (dk_at dkX1_init 4 rfl) rfl ?_
  refine q_callIN (pc' := 12) (mc' := 12) (ms' := 70) ci_RX1_11 (dk_at dkX1_init 5 rfl) (k_init2 (d := 1) (b := b + 1) e1 (by omega)) (by omega) (by decide) (by decide) (Nat.le_of_ble_eq_true rfl) (Nat.le_of_ble_eq_true rfl) rfl ?_
  rintro r n1 h2 ⟨hr, hn1, p1, hb1⟩
  subst hr
  subst hn1
  show QW _ _ _ _ _ _ _ _ _ [vR (b + 1), vR b] _ (b + 14) _
  have e0 : h2 b = cO 1 [vN, vI 0, vI 0, vJ 0, vJ 0, vI 0, vN, vN, vN, vN, vN, vN, vN, vN, vN, vI 0, vN, vN, vN] := by rw [hb1 _ (by omega)]; exact e0
  have hB := hB.tr hb1 (by omega)
  refine r_putF (pc' := 15) fp_RX1_12 rfl (dk_at dkX1_init 6 rfl) ⟨by omega, e0⟩ (Nat.le_of_ble_eq_true rfl) (PT_obj _ _) rfl (fun h3 Eh3 => ?_)
  have e0 : h3 b = cO 1 [vR (b + 1), vI 0, vI 0, vJ 0, vJ 0, vI 0, vN, vN, vN, vN, vN, vN, vN, vN, vN, vI 0, vN, vN, vN] := by rw [Eh3, hp_eq]; rfl
  have p1 := p1.gw (n' := b + 14) (h' := h3) (by omega) (fun k k1 k2 => by rw [Eh3, hp_ne (by omega)])
  have hB := hB.put Eh3 (by omega)
  refine q_aload_n (pc' := 16) (dk_at dkX1_init 7 rfl) rfl rfl ?_
  refine q_sipush (pc' := 19) (dk_at dkX1_init 8 rfl) (by decide +kernel) rfl ?_
  refine r_newI (pc' := 21) (n' := b + 15) 256 rfl (dk_at dkX1_init 9 rfl) (by decide) (by decide) (by decide) rfl (by omega) (fun h4 Eh4 => ?_)
  have e14 : h4 (b + 14) = cI 256 (fun _ => 0) := by rw [Eh4, hp_eq]
  have e0 : h4 b = cO 1 [vR (b + 1), vI 0, vI 0, vJ 0, vJ 0, vI 0, vN, vN, vN, vN, vN, vN, vN, vN, vN, vI 0, vN, vN, vN] := by rw [Eh4, hp_ne (by omega)]; exact e0
  have p1 := p1.gw (n' := b + 15) (h' := h4) (by omega) (fun k k1 k2 => by rw [Eh4, hp_ne (by omega)])
  have hB := hB.put Eh4 (by omega)
  refine r_putF (pc' := 24) fp_RX1_18 rfl (dk_at dkX1_init 10 rfl) ⟨by omega, e0⟩ (Nat.le_of_ble_eq_true rfl) (PT_arr _ _) rfl (fun h5 Eh5 => ?_)
  have e0 : h5 b = cO 1 [vR (b + 1), vI 0, vI 0, vJ 0, vJ 0, vI 0, vR (b + 14), vN, vN, vN, vN, vN, vN, vN, vN, vI 0, vN, vN, vN] := by rw [Eh5, hp_eq]; rfl
  have e14 : h5 (b + 14) = cI 256 (fun _ => 0) := by rw [Eh5, hp_ne (by omega)]; exact e14
  have p1 := p1.gw (n' := b + 15) (h' := h5) (by omega) (fun k k1 k2 => by rw [Eh5, hp_ne (by omega)])
  have hB := hB.put Eh5 (by omega)
  refine q_aload_n (pc' := 25) (dk_at dkX1_init 11 rfl) rfl rfl ?_
  refine q_sipush (pc' := 28) (dk_at dkX1_init 12 rfl) (by decide +kernel) rfl ?_
  refine r_newI (pc' := 30) (n' := b + 16) 256 rfl (dk_at dkX1_init 13 rfl) (by decide) (by decide) (by decide) rfl (by omega) (fun h6 Eh6 => ?_)
  have e15 : h6 (b + 15) = cI 256 (fun _ => 0) := by rw [Eh6, hp_eq]
  have e0 : h6 b = cO 1 [vR (b + 1), vI 0, vI 0, vJ 0, vJ 0, vI 0, vR (b + 14), vN, vN, vN, vN, vN, vN, vN, vN, vI 0, vN, vN, vN] := by rw [Eh6, hp_ne (by omega)]; exact e0
  have e14 : h6 (b + 14) = cI 256 (fun _ => 0) := by rw [Eh6, hp_ne (by omega)]; exact e14
  have p1 := p1.gw (n' := b + 16) (h' := h6) (by omega) (fun k k1 k2 => by rw [Eh6, hp_ne (by omega)])
  have hB := hB.put Eh6 (by omega)
  refine r_putF (pc' := 33) fp_RX1_22 rfl (dk_at dkX1_init 14 rfl) ⟨by omega, e0⟩ (Nat.le_of_ble_eq_true rfl) (PT_arr _ _) rfl (fun h7 Eh7 => ?_)
  have e0 : h7 b = cO 1 [vR (b + 1), vI 0, vI 0, vJ 0, vJ 0, vI 0, vR (b + 14), vR (b + 15), vN, vN, vN, vN, vN, vN, vN, vI 0, vN, vN, vN] := by rw [Eh7, hp_eq]; rfl
  have e14 : h7 (b + 14) = cI 256 (fun _ => 0) := by rw [Eh7, hp_ne (by omega)]; exact e14
  have e15 : h7 (b + 15) = cI 256 (fun _ => 0) := by rw [Eh7, hp_ne (by omega)]; exact e15
  have p1 := p1.gw (n' := b + 16) (h' := h7) (by omega) (fun k k1 k2 => by rw [Eh7, hp_ne (by omega)])
  have hB := hB.put Eh7 (by omega)
  refine q_aload_n (pc' := 34) (dk_at dkX1_init 15 rfl) rfl rfl ?_
  refine q_sipush (pc' := 37) (dk_at dkX1_init 16 rfl) (by decide +kernel) rfl ?_
  refine r_newI (pc' := 39) (n' := b + 17) 256 rfl (dk_at dkX1_init 17 rfl) (by decide) (by decide) (by decide) rfl (by omega) (fun h8 Eh8 => ?_)
  have e16 : h8 (b + 16) = cI 256 (fun _ => 0) := by rw [Eh8, hp_eq]
  have e0 : h8 b = cO 1 [vR (b + 1), vI 0, vI 0, vJ 0, vJ 0, vI 0, vR (b + 14), vR (b + 15), vN, vN, vN, vN, vN, vN, vN, vI 0, vN, vN, vN] := by rw [Eh8, hp_ne (by omega)]; exact e0
  have e14 : h8 (b + 14) = cI 256 (fun _ => 0) := by rw [Eh8, hp_ne (by omega)]; exact e14
  have e15 : h8 (b + 15) = cI 256 (fun _ => 0) := by rw [Eh8, hp_ne (by omega)]; exact e15
  have p1 := p1.gw (n' := b + 17) (h' := h8) (by omega) (fun k k1 k2 => by rw [Eh8, hp_ne (by omega)])
  have hB := hB.put Eh8 (by omega)
  refine r_putF (pc' := 42) fp_RX1_25 rfl (dk_at dkX1_init 18 rfl) ⟨by omega, e0⟩ (Nat.le_of_ble_eq_true rfl) (PT_arr _ _) rfl (fun h9 Eh9 => ?_)
  have e0 : h9 b = cO 1 [vR (b + 1), vI 0, vI 0, vJ 0, vJ 0, vI 0, vR (b + 14), vR (b + 15), vR (b + 16), vN, vN, vN, vN, vN, vN, vI 0, vN, vN, vN] := by rw [Eh9, hp_eq]; rfl
  have e14 : h9 (b + 14) = cI 256 (fun _ => 0) := by rw [Eh9, hp_ne (by omega)]; exact e14
  have e15 : h9 (b + 15) = cI 256 (fun _ => 0) := by rw [Eh9, hp_ne (by omega)]; exact e15
  have e16 : h9 (b + 16) = cI 256 (fun _ => 0) := by rw [Eh9, hp_ne (by omega)]; exact e16
  have p1 := p1.gw (n' := b + 17) (h' := h9) (by omega) (fun k k1 k2 => by rw [Eh9, hp_ne (by omega)])
  have hB := hB.put Eh9 (by omega)
  refine q_aload_n (pc' := 43) (dk_at dkX1_init 19 rfl) rfl rfl ?_
  refine q_sipush (pc' := 46) (dk_at dkX1_init 20 rfl) (by decide +kernel) rfl ?_
  refine r_newI (pc' := 48) (n' := b + 18) 256 rfl (dk_at dkX1_init 21 rfl) (by decide) (by decide) (by decide) rfl (by omega) (fun h10 Eh10 => ?_)
  have e17 : h10 (b + 17) = cI 256 (fun _ => 0) := by rw [Eh10, hp_eq]
  have e0 : h10 b = cO 1 [vR (b + 1), vI 0, vI 0, vJ 0, vJ 0, vI 0, vR (b + 14), vR (b + 15), vR (b + 16), vN, vN, vN, vN, vN, vN, vI 0, vN, vN, vN] := by rw [Eh10, hp_ne (by omega)]; exact e0
  have e14 : h10 (b + 14) = cI 256 (fun _ => 0) := by rw [Eh10, hp_ne (by omega)]; exact e14
  have e15 : h10 (b + 15) = cI 256 (fun _ => 0) := by rw [Eh10, hp_ne (by omega)]; exact e15
  have e16 : h10 (b + 16) = cI 256 (fun _ => 0) := by rw [Eh10, hp_ne (by omega)]; exact e16
  have p1 := p1.gw (n' := b + 18) (h' := h10) (by omega) (fun k k1 k2 => by rw [Eh10, hp_ne (by omega)])
  have hB := hB.put Eh10 (by omega)
  refine r_putF (pc' := 51) fp_RX1_28 rfl (dk_at dkX1_init 22 rfl) ⟨by omega, e0⟩ (Nat.le_of_ble_eq_true rfl) (PT_arr _ _) rfl (fun h11 Eh11 => ?_)
  have e0 : h11 b = cO 1 [vR (b + 1), vI 0, vI 0, vJ 0, vJ 0, vI 0, vR (b + 14), vR (b + 15), vR (b + 16), vR (b + 17), vN, vN, vN, vN, vN, vI 0, vN, vN, vN] := by rw [Eh11, hp_eq]; rfl
  have e14 : h11 (b + 14) = cI 256 (fun _ => 0) := by rw [Eh11, hp_ne (by omega)]; exact e14
  have e15 : h11 (b + 15) = cI 256 (fun _ => 0) := by rw [Eh11, hp_ne (by omega)]; exact e15
  have e16 : h11 (b + 16) = cI 256 (fun _ => 0) := by rw [Eh11, hp_ne (by omega)]; exact e16
  have e17 : h11 (b + 17) = cI 256 (fun _ => 0) := by rw [Eh11, hp_ne (by omega)]; exact e17
  have p1 := p1.gw (n' := b + 18) (h' := h11) (by omega) (fun k k1 k2 => by rw [Eh11, hp_ne (by omega)])
  have hB := hB.put Eh11 (by omega)
  refine q_aload_n (pc' := 52) (dk_at dkX1_init 23 rfl) rfl rfl ?_
  refine q_iconst (pc' := 53) (dk_at dkX1_init 24 rfl) rfl ?_
  refine q_iconst (pc' := 54) (dk_at dkX1_init 25 rfl) rfl ?_
  refine r_newII (pc' := 58) (n' := b + 24) 5 4 rfl rfl kl_RX1_31 (dk_at dkX1_init 26 rfl) (by decide) (by decide) (by decide) (by decide) rfl (by omega) (fun h12 Eh12 => ?_)
  have e18 : h12 (b + 18) = cR 1 5 (rowsF (b + 19) 5) := by rw [Eh12]; exact hpII_o
  have r19 : ∀ i, i < 5 → h12 (b + 19 + i) = cI 4 (fun _ => 0) := fun i hi => by rw [Eh12]; exact hpII_r hi
  have e0 : h12 b = cO 1 [vR (b + 1), vI 0, vI 0, vJ 0, vJ 0, vI 0, vR (b + 14), vR (b + 15), vR (b + 16), vR (b + 17), vN, vN, vN, vN, vN, vI 0, vN, vN, vN] := by rw [Eh12, hpII_n (by omega)]; exact e0
  have e14 : h12 (b + 14) = cI 256 (fun _ => 0) := by rw [Eh12, hpII_n (by omega)]; exact e14
  have e15 : h12 (b + 15) = cI 256 (fun _ => 0) := by rw [Eh12, hpII_n (by omega)]; exact e15
  have e16 : h12 (b + 16) = cI 256 (fun _ => 0) := by rw [Eh12, hpII_n (by omega)]; exact e16
  have e17 : h12 (b + 17) = cI 256 (fun _ => 0) := by rw [Eh12, hpII_n (by omega)]; exact e17
  have p1 := p1.gw (n' := b + 24) (h' := h12) (by omega) (fun k k1 k2 => by rw [Eh12, hpII_n (by omega)])
  have hB : Bel h h12 b := fun k hk => by rw [Eh12]; exact (hpII_n (by omega)).trans (hB k hk)
  refine r_putF (pc' := 61) fp_RX1_33 rfl (dk_at dkX1_init 27 rfl) ⟨by omega, e0⟩ (Nat.le_of_ble_eq_true rfl) (PT_arr _ _) rfl (fun h13 Eh13 => ?_)
  have e0 : h13 b = cO 1 [vR (b + 1), vI 0, vI 0, vJ 0, vJ 0, vI 0, vR (b + 14), vR (b + 15), vR (b + 16), vR (b + 17), vR (b + 18), vN, vN, vN, vN, vI 0, vN, vN, vN] := by rw [Eh13, hp_eq]; rfl
  have e14 : h13 (b + 14) = cI 256 (fun _ => 0) := by rw [Eh13, hp_ne (by omega)]; exact e14
  have e15 : h13 (b + 15) = cI 256 (fun _ => 0) := by rw [Eh13, hp_ne (by omega)]; exact e15
  have e16 : h13 (b + 16) = cI 256 (fun _ => 0) := by rw [Eh13, hp_ne (by omega)]; exact e16
  have e17 : h13 (b + 17) = cI 256 (fun _ => 0) := by rw [Eh13, hp_ne (by omega)]; exact e17
  have e18 : h13 (b + 18) = cR 1 5 (rowsF (b + 19) 5) := by rw [Eh13, hp_ne (by omega)]; exact e18
  have r19 : ∀ i, i < 5 → h13 (b + 19 + i) = cI 4 (fun _ => 0) := fun i hi => by rw [Eh13, hp_ne (by omega)]; exact r19 i hi
  have p1 := p1.gw (n' := b + 24) (h' := h13) (by omega) (fun k k1 k2 => by rw [Eh13, hp_ne (by omega)])
  have hB := hB.put Eh13 (by omega)
  refine q_aload_n (pc' := 62) (dk_at dkX1_init 28 rfl) rfl rfl ?_
  refine q_iconst (pc' := 63) (dk_at dkX1_init 29 rfl) rfl ?_
  refine r_newI (pc' := 65) (n' := b + 25) 4 rfl (dk_at dkX1_init 30 rfl) (by decide) (by decide) (by decide) rfl (by omega) (fun h14 Eh14 => ?_)
  have e24 : h14 (b + 24) = cI 4 (fun _ => 0) := by rw [Eh14, hp_eq]
  have e0 : h14 b = cO 1 [vR (b + 1), vI 0, vI 0, vJ 0, vJ 0, vI 0, vR (b + 14), vR (b + 15), vR (b + 16), vR (b + 17), vR (b + 18), vN, vN, vN, vN, vI 0, vN, vN, vN] := by rw [Eh14, hp_ne (by omega)]; exact e0
  have e14 : h14 (b + 14) = cI 256 (fun _ => 0) := by rw [Eh14, hp_ne (by omega)]; exact e14
  have e15 : h14 (b + 15) = cI 256 (fun _ => 0) := by rw [Eh14, hp_ne (by omega)]; exact e15
  have e16 : h14 (b + 16) = cI 256 (fun _ => 0) := by rw [Eh14, hp_ne (by omega)]; exact e16
  have e17 : h14 (b + 17) = cI 256 (fun _ => 0) := by rw [Eh14, hp_ne (by omega)]; exact e17
  have e18 : h14 (b + 18) = cR 1 5 (rowsF (b + 19) 5) := by rw [Eh14, hp_ne (by omega)]; exact e18
  have r19 : ∀ i, i < 5 → h14 (b + 19 + i) = cI 4 (fun _ => 0) := fun i hi => by rw [Eh14, hp_ne (by omega)]; exact r19 i hi
  have p1 := p1.gw (n' := b + 25) (h' := h14) (by omega) (fun k k1 k2 => by rw [Eh14, hp_ne (by omega)])
  have hB := hB.put Eh14 (by omega)
  refine r_putF (pc' := 68) fp_RX1_36 rfl (dk_at dkX1_init 31 rfl) ⟨by omega, e0⟩ (Nat.le_of_ble_eq_true rfl) (PT_arr _ _) rfl (fun h15 Eh15 => ?_)
  have e0 : h15 b = cO 1 [vR (b + 1), vI 0, vI 0, vJ 0, vJ 0, vI 0, vR (b + 14), vR (b + 15), vR (b + 16), vR (b + 17), vR (b + 18), vR (b + 24), vN, vN, vN, vI 0, vN, vN, vN] := by rw [Eh15, hp_eq]; rfl
  have e14 : h15 (b + 14) = cI 256 (fun _ => 0) := by rw [Eh15, hp_ne (by omega)]; exact e14
  have e15 : h15 (b + 15) = cI 256 (fun _ => 0) := by rw [Eh15, hp_ne (by omega)]; exact e15
  have e16 : h15 (b + 16) = cI 256 (fun _ => 0) := by rw [Eh15, hp_ne (by omega)]; exact e16
  have e17 : h15 (b + 17) = cI 256 (fun _ => 0) := by rw [Eh15, hp_ne (by omega)]; exact e17
  have e18 : h15 (b + 18) = cR 1 5 (rowsF (b + 19) 5) := by rw [Eh15, hp_ne (by omega)]; exact e18
  have e24 : h15 (b + 24) = cI 4 (fun _ => 0) := by rw [Eh15, hp_ne (by omega)]; exact e24
  have r19 : ∀ i, i < 5 → h15 (b + 19 + i) = cI 4 (fun _ => 0) := fun i hi => by rw [Eh15, hp_ne (by omega)]; exact r19 i hi
  have p1 := p1.gw (n' := b + 25) (h' := h15) (by omega) (fun k k1 k2 => by rw [Eh15, hp_ne (by omega)])
  have hB := hB.put Eh15 (by omega)
  refine q_aload_n (pc' := 69) (dk_at dkX1_init 32 rfl) rfl rfl ?_
  refine q_bipush (pc' := 71) (dk_at dkX1_init 33 rfl) (by decide +kernel) rfl ?_
  refine r_newI (pc' := 73) (n' := b + 26) 8 rfl (dk_at dkX1_init 34 rfl) (by decide) (by decide) (by decide) rfl (by omega) (fun h16 Eh16 => ?_)
  have e25 : h16 (b + 25) = cI 8 (fun _ => 0) := by rw [Eh16, hp_eq]
  have e0 : h16 b = cO 1 [vR (b + 1), vI 0, vI 0, vJ 0, vJ 0, vI 0, vR (b + 14), vR (b + 15), vR (b + 16), vR (b + 17), vR (b + 18), vR (b + 24), vN, vN, vN, vI 0, vN, vN, vN] := by rw [Eh16, hp_ne (by omega)]; exact e0
  have e14 : h16 (b + 14) = cI 256 (fun _ => 0) := by rw [Eh16, hp_ne (by omega)]; exact e14
  have e15 : h16 (b + 15) = cI 256 (fun _ => 0) := by rw [Eh16, hp_ne (by omega)]; exact e15
  have e16 : h16 (b + 16) = cI 256 (fun _ => 0) := by rw [Eh16, hp_ne (by omega)]; exact e16
  have e17 : h16 (b + 17) = cI 256 (fun _ => 0) := by rw [Eh16, hp_ne (by omega)]; exact e17
  have e18 : h16 (b + 18) = cR 1 5 (rowsF (b + 19) 5) := by rw [Eh16, hp_ne (by omega)]; exact e18
  have e24 : h16 (b + 24) = cI 4 (fun _ => 0) := by rw [Eh16, hp_ne (by omega)]; exact e24
  have r19 : ∀ i, i < 5 → h16 (b + 19 + i) = cI 4 (fun _ => 0) := fun i hi => by rw [Eh16, hp_ne (by omega)]; exact r19 i hi
  have p1 := p1.gw (n' := b + 26) (h' := h16) (by omega) (fun k k1 k2 => by rw [Eh16, hp_ne (by omega)])
  have hB := hB.put Eh16 (by omega)
  refine r_putF (pc' := 76) fp_RX1_39 rfl (dk_at dkX1_init 35 rfl) ⟨by omega, e0⟩ (Nat.le_of_ble_eq_true rfl) (PT_arr _ _) rfl (fun h17 Eh17 => ?_)
  have e0 : h17 b = cO 1 [vR (b + 1), vI 0, vI 0, vJ 0, vJ 0, vI 0, vR (b + 14), vR (b + 15), vR (b + 16), vR (b + 17), vR (b + 18), vR (b + 24), vR (b + 25), vN, vN, vI 0, vN, vN, vN] := by rw [Eh17, hp_eq]; rfl
  have e14 : h17 (b + 14) = cI 256 (fun _ => 0) := by rw [Eh17, hp_ne (by omega)]; exact e14
  have e15 : h17 (b + 15) = cI 256 (fun _ => 0) := by rw [Eh17, hp_ne (by omega)]; exact e15
  have e16 : h17 (b + 16) = cI 256 (fun _ => 0) := by rw [Eh17, hp_ne (by omega)]; exact e16
  have e17 : h17 (b + 17) = cI 256 (fun _ => 0) := by rw [Eh17, hp_ne (by omega)]; exact e17
  have e18 : h17 (b + 18) = cR 1 5 (rowsF (b + 19) 5) := by rw [Eh17, hp_ne (by omega)]; exact e18
  have e24 : h17 (b + 24) = cI 4 (fun _ => 0) := by rw [Eh17, hp_ne (by omega)]; exact e24
  have e25 : h17 (b + 25) = cI 8 (fun _ => 0) := by rw [Eh17, hp_ne (by omega)]; exact e25
  have r19 : ∀ i, i < 5 → h17 (b + 19 + i) = cI 4 (fun _ => 0) := fun i hi => by rw [Eh17, hp_ne (by omega)]; exact r19 i hi
  have p1 := p1.gw (n' := b + 26) (h' := h17) (by omega) (fun k k1 k2 => by rw [Eh17, hp_ne (by omega)])
  have hB := hB.put Eh17 (by omega)
  refine q_aload_n (pc' := 77) (dk_at dkX1_init 36 rfl) rfl rfl ?_
  refine q_bipush (pc' := 79) (dk_at dkX1_init 37 rfl) (by decide +kernel) rfl ?_
  refine r_newI (pc' := 81) (n' := b + 27) 8 rfl (dk_at dkX1_init 38 rfl) (by decide) (by decide) (by decide) rfl (by omega) (fun h18 Eh18 => ?_)
  have e26 : h18 (b + 26) = cI 8 (fun _ => 0) := by rw [Eh18, hp_eq]
  have e0 : h18 b = cO 1 [vR (b + 1), vI 0, vI 0, vJ 0, vJ 0, vI 0, vR (b + 14), vR (b + 15), vR (b + 16), vR (b + 17), vR (b + 18), vR (b + 24), vR (b + 25), vN, vN, vI 0, vN, vN, vN] := by rw [Eh18, hp_ne (by omega)]; exact e0
  have e14 : h18 (b + 14) = cI 256 (fun _ => 0) := by rw [Eh18, hp_ne (by omega)]; exact e14
  have e15 : h18 (b + 15) = cI 256 (fun _ => 0) := by rw [Eh18, hp_ne (by omega)]; exact e15
  have e16 : h18 (b + 16) = cI 256 (fun _ => 0) := by rw [Eh18, hp_ne (by omega)]; exact e16
  have e17 : h18 (b + 17) = cI 256 (fun _ => 0) := by rw [Eh18, hp_ne (by omega)]; exact e17
  have e18 : h18 (b + 18) = cR 1 5 (rowsF (b + 19) 5) := by rw [Eh18, hp_ne (by omega)]; exact e18
  have e24 : h18 (b + 24) = cI 4 (fun _ => 0) := by rw [Eh18, hp_ne (by omega)]; exact e24
  have e25 : h18 (b + 25) = cI 8 (fun _ => 0) := by rw [Eh18, hp_ne (by omega)]; exact e25
  have r19 : ∀ i, i < 5 → h18 (b + 19 + i) = cI 4 (fun _ => 0) := fun i hi => by rw [Eh18, hp_ne (by omega)]; exact r19 i hi
  have p1 := p1.gw (n' := b + 27) (h' := h18) (by omega) (fun k k1 k2 => by rw [Eh18, hp_ne (by omega)])
  have hB := hB.put Eh18 (by omega)
  refine r_putF (pc' := 84) fp_RX1_42 rfl (dk_at dkX1_init 39 rfl) ⟨by omega, e0⟩ (Nat.le_of_ble_eq_true rfl) (PT_arr _ _) rfl (fun h19 Eh19 => ?_)
  have e0 : h19 b = cO 1 [vR (b + 1), vI 0, vI 0, vJ 0, vJ 0, vI 0, vR (b + 14), vR (b + 15), vR (b + 16), vR (b + 17), vR (b + 18), vR (b + 24), vR (b + 25), vR (b + 26), vN, vI 0, vN, vN, vN] := by rw [Eh19, hp_eq]; rfl
  have e14 : h19 (b + 14) = cI 256 (fun _ => 0) := by rw [Eh19, hp_ne (by omega)]; exact e14
  have e15 : h19 (b + 15) = cI 256 (fun _ => 0) := by rw [Eh19, hp_ne (by omega)]; exact e15
  have e16 : h19 (b + 16) = cI 256 (fun _ => 0) := by rw [Eh19, hp_ne (by omega)]; exact e16
  have e17 : h19 (b + 17) = cI 256 (fun _ => 0) := by rw [Eh19, hp_ne (by omega)]; exact e17
  have e18 : h19 (b + 18) = cR 1 5 (rowsF (b + 19) 5) := by rw [Eh19, hp_ne (by omega)]; exact e18
  have e24 : h19 (b + 24) = cI 4 (fun _ => 0) := by rw [Eh19, hp_ne (by omega)]; exact e24
  have e25 : h19 (b + 25) = cI 8 (fun _ => 0) := by rw [Eh19, hp_ne (by omega)]; exact e25
  have e26 : h19 (b + 26) = cI 8 (fun _ => 0) := by rw [Eh19, hp_ne (by omega)]; exact e26
  have r19 : ∀ i, i < 5 → h19 (b + 19 + i) = cI 4 (fun _ => 0) := fun i hi => by rw [Eh19, hp_ne (by omega)]; exact r19 i hi
  have p1 := p1.gw (n' := b + 27) (h' := h19) (by omega) (fun k k1 k2 => by rw [Eh19, hp_ne (by omega)])
  have hB := hB.put Eh19 (by omega)
  refine q_aload_n (pc' := 85) (dk_at dkX1_init 40 rfl) rfl rfl ?_
  refine q_bipush (pc' := 87) (dk_at dkX1_init 41 rfl) (by decide +kernel) rfl ?_
  refine r_newI (pc' := 89) (n' := b + 28) 8 rfl (dk_at dkX1_init 42 rfl) (by decide) (by decide) (by decide) rfl (by omega) (fun h20 Eh20 => ?_)
  have e27 : h20 (b + 27) = cI 8 (fun _ => 0) := by rw [Eh20, hp_eq]
  have e0 : h20 b = cO 1 [vR (b + 1), vI 0, vI 0, vJ 0, vJ 0, vI 0, vR (b + 14), vR (b + 15), vR (b + 16), vR (b + 17), vR (b + 18), vR (b + 24), vR (b + 25), vR (b + 26), vN, vI 0, vN, vN, vN] := by rw [Eh20, hp_ne (by omega)]; exact e0
  have e14 : h20 (b + 14) = cI 256 (fun _ => 0) := by rw [Eh20, hp_ne (by omega)]; exact e14
  have e15 : h20 (b + 15) = cI 256 (fun _ => 0) := by rw [Eh20, hp_ne (by omega)]; exact e15
  have e16 : h20 (b + 16) = cI 256 (fun _ => 0) := by rw [Eh20, hp_ne (by omega)]; exact e16
  have e17 : h20 (b + 17) = cI 256 (fun _ => 0) := by rw [Eh20, hp_ne (by omega)]; exact e17
  have e18 : h20 (b + 18) = cR 1 5 (rowsF (b + 19) 5) := by rw [Eh20, hp_ne (by omega)]; exact e18
  have e24 : h20 (b + 24) = cI 4 (fun _ => 0) := by rw [Eh20, hp_ne (by omega)]; exact e24
  have e25 : h20 (b + 25) = cI 8 (fun _ => 0) := by rw [Eh20, hp_ne (by omega)]; exact e25
  have e26 : h20 (b + 26) = cI 8 (fun _ => 0) := by rw [Eh20, hp_ne (by omega)]; exact e26
  have r19 : ∀ i, i < 5 → h20 (b + 19 + i) = cI 4 (fun _ => 0) := fun i hi => by rw [Eh20, hp_ne (by omega)]; exact r19 i hi
  have p1 := p1.gw (n' := b + 28) (h' := h20) (by omega) (fun k k1 k2 => by rw [Eh20, hp_ne (by omega)])
  have hB := hB.put Eh20 (by omega)
  refine r_putF (pc' := 92) fp_RX1_45 rfl (dk_at dkX1_init 43 rfl) ⟨by omega, e0⟩ (Nat.le_of_ble_eq_true rfl) (PT_arr _ _) rfl (fun h21 Eh21 => ?_)
  have e0 : h21 b = cO 1 [vR (b + 1), vI 0, vI 0, vJ 0, vJ 0, vI 0, vR (b + 14), vR (b + 15), vR (b + 16), vR (b + 17), vR (b + 18), vR (b + 24), vR (b + 25), vR (b + 26), vR (b + 27), vI 0, vN, vN, vN] := by rw [Eh21, hp_eq]; rfl
  have e14 : h21 (b + 14) = cI 256 (fun _ => 0) := by rw [Eh21, hp_ne (by omega)]; exact e14
  have e15 : h21 (b + 15) = cI 256 (fun _ => 0) := by rw [Eh21, hp_ne (by omega)]; exact e15
  have e16 : h21 (b + 16) = cI 256 (fun _ => 0) := by rw [Eh21, hp_ne (by omega)]; exact e16
  have e17 : h21 (b + 17) = cI 256 (fun _ => 0) := by rw [Eh21, hp_ne (by omega)]; exact e17
  have e18 : h21 (b + 18) = cR 1 5 (rowsF (b + 19) 5) := by rw [Eh21, hp_ne (by omega)]; exact e18
  have e24 : h21 (b + 24) = cI 4 (fun _ => 0) := by rw [Eh21, hp_ne (by omega)]; exact e24
  have e25 : h21 (b + 25) = cI 8 (fun _ => 0) := by rw [Eh21, hp_ne (by omega)]; exact e25
  have e26 : h21 (b + 26) = cI 8 (fun _ => 0) := by rw [Eh21, hp_ne (by omega)]; exact e26
  have e27 : h21 (b + 27) = cI 8 (fun _ => 0) := by rw [Eh21, hp_ne (by omega)]; exact e27
  have r19 : ∀ i, i < 5 → h21 (b + 19 + i) = cI 4 (fun _ => 0) := fun i hi => by rw [Eh21, hp_ne (by omega)]; exact r19 i hi
  have p1 := p1.gw (n' := b + 28) (h' := h21) (by omega) (fun k k1 k2 => by rw [Eh21, hp_ne (by omega)])
  have hB := hB.put Eh21 (by omega)
  refine q_aload_n (pc' := 93) (dk_at dkX1_init 44 rfl) rfl rfl ?_
  refine q_sipush (pc' := 96) (dk_at dkX1_init 45 rfl) (by decide +kernel) rfl ?_
  refine r_newI (pc' := 98) (n' := b + 29) 1024 rfl (dk_at dkX1_init 46 rfl) (by decide) (by decide) (by decide) rfl (by omega) (fun h22 Eh22 => ?_)
  have e28 : h22 (b + 28) = cI 1024 (fun _ => 0) := by rw [Eh22, hp_eq]
  have e0 : h22 b = cO 1 [vR (b + 1), vI 0, vI 0, vJ 0, vJ 0, vI 0, vR (b + 14), vR (b + 15), vR (b + 16), vR (b + 17), vR (b + 18), vR (b + 24), vR (b + 25), vR (b + 26), vR (b + 27), vI 0, vN, vN, vN] := by rw [Eh22, hp_ne (by omega)]; exact e0
  have e14 : h22 (b + 14) = cI 256 (fun _ => 0) := by rw [Eh22, hp_ne (by omega)]; exact e14
  have e15 : h22 (b + 15) = cI 256 (fun _ => 0) := by rw [Eh22, hp_ne (by omega)]; exact e15
  have e16 : h22 (b + 16) = cI 256 (fun _ => 0) := by rw [Eh22, hp_ne (by omega)]; exact e16
  have e17 : h22 (b + 17) = cI 256 (fun _ => 0) := by rw [Eh22, hp_ne (by omega)]; exact e17
  have e18 : h22 (b + 18) = cR 1 5 (rowsF (b + 19) 5) := by rw [Eh22, hp_ne (by omega)]; exact e18
  have e24 : h22 (b + 24) = cI 4 (fun _ => 0) := by rw [Eh22, hp_ne (by omega)]; exact e24
  have e25 : h22 (b + 25) = cI 8 (fun _ => 0) := by rw [Eh22, hp_ne (by omega)]; exact e25
  have e26 : h22 (b + 26) = cI 8 (fun _ => 0) := by rw [Eh22, hp_ne (by omega)]; exact e26
  have e27 : h22 (b + 27) = cI 8 (fun _ => 0) := by rw [Eh22, hp_ne (by omega)]; exact e27
  have r19 : ∀ i, i < 5 → h22 (b + 19 + i) = cI 4 (fun _ => 0) := fun i hi => by rw [Eh22, hp_ne (by omega)]; exact r19 i hi
  have p1 := p1.gw (n' := b + 29) (h' := h22) (by omega) (fun k k1 k2 => by rw [Eh22, hp_ne (by omega)])
  have hB := hB.put Eh22 (by omega)
  refine r_putF (pc' := 101) fp_RX1_48 rfl (dk_at dkX1_init 47 rfl) ⟨by omega, e0⟩ (Nat.le_of_ble_eq_true rfl) (PT_arr _ _) rfl (fun h23 Eh23 => ?_)
  have e0 : h23 b = cO 1 [vR (b + 1), vI 0, vI 0, vJ 0, vJ 0, vI 0, vR (b + 14), vR (b + 15), vR (b + 16), vR (b + 17), vR (b + 18), vR (b + 24), vR (b + 25), vR (b + 26), vR (b + 27), vI 0, vR (b + 28), vN, vN] := by rw [Eh23, hp_eq]; rfl
  have e14 : h23 (b + 14) = cI 256 (fun _ => 0) := by rw [Eh23, hp_ne (by omega)]; exact e14
  have e15 : h23 (b + 15) = cI 256 (fun _ => 0) := by rw [Eh23, hp_ne (by omega)]; exact e15
  have e16 : h23 (b + 16) = cI 256 (fun _ => 0) := by rw [Eh23, hp_ne (by omega)]; exact e16
  have e17 : h23 (b + 17) = cI 256 (fun _ => 0) := by rw [Eh23, hp_ne (by omega)]; exact e17
  have e18 : h23 (b + 18) = cR 1 5 (rowsF (b + 19) 5) := by rw [Eh23, hp_ne (by omega)]; exact e18
  have e24 : h23 (b + 24) = cI 4 (fun _ => 0) := by rw [Eh23, hp_ne (by omega)]; exact e24
  have e25 : h23 (b + 25) = cI 8 (fun _ => 0) := by rw [Eh23, hp_ne (by omega)]; exact e25
  have e26 : h23 (b + 26) = cI 8 (fun _ => 0) := by rw [Eh23, hp_ne (by omega)]; exact e26
  have e27 : h23 (b + 27) = cI 8 (fun _ => 0) := by rw [Eh23, hp_ne (by omega)]; exact e27
  have e28 : h23 (b + 28) = cI 1024 (fun _ => 0) := by rw [Eh23, hp_ne (by omega)]; exact e28
  have r19 : ∀ i, i < 5 → h23 (b + 19 + i) = cI 4 (fun _ => 0) := fun i hi => by rw [Eh23, hp_ne (by omega)]; exact r19 i hi
  have p1 := p1.gw (n' := b + 29) (h' := h23) (by omega) (fun k k1 k2 => by rw [Eh23, hp_ne (by omega)])
  have hB := hB.put Eh23 (by omega)
  refine q_aload_n (pc' := 102) (dk_at dkX1_init 48 rfl) rfl rfl ?_
  refine q_sipush (pc' := 105) (dk_at dkX1_init 49 rfl) (by decide +kernel) rfl ?_
  refine r_newI (pc' := 107) (n' := b + 30) 3072 rfl (dk_at dkX1_init 50 rfl) (by decide) (by decide) (by decide) rfl (by omega) (fun h24 Eh24 => ?_)
  have e29 : h24 (b + 29) = cI 3072 (fun _ => 0) := by rw [Eh24, hp_eq]
  have e0 : h24 b = cO 1 [vR (b + 1), vI 0, vI 0, vJ 0, vJ 0, vI 0, vR (b + 14), vR (b + 15), vR (b + 16), vR (b + 17), vR (b + 18), vR (b + 24), vR (b + 25), vR (b + 26), vR (b + 27), vI 0, vR (b + 28), vN, vN] := by rw [Eh24, hp_ne (by omega)]; exact e0
  have e14 : h24 (b + 14) = cI 256 (fun _ => 0) := by rw [Eh24, hp_ne (by omega)]; exact e14
  have e15 : h24 (b + 15) = cI 256 (fun _ => 0) := by rw [Eh24, hp_ne (by omega)]; exact e15
  have e16 : h24 (b + 16) = cI 256 (fun _ => 0) := by rw [Eh24, hp_ne (by omega)]; exact e16
  have e17 : h24 (b + 17) = cI 256 (fun _ => 0) := by rw [Eh24, hp_ne (by omega)]; exact e17
  have e18 : h24 (b + 18) = cR 1 5 (rowsF (b + 19) 5) := by rw [Eh24, hp_ne (by omega)]; exact e18
  have e24 : h24 (b + 24) = cI 4 (fun _ => 0) := by rw [Eh24, hp_ne (by omega)]; exact e24
  have e25 : h24 (b + 25) = cI 8 (fun _ => 0) := by rw [Eh24, hp_ne (by omega)]; exact e25
  have e26 : h24 (b + 26) = cI 8 (fun _ => 0) := by rw [Eh24, hp_ne (by omega)]; exact e26
  have e27 : h24 (b + 27) = cI 8 (fun _ => 0) := by rw [Eh24, hp_ne (by omega)]; exact e27
  have e28 : h24 (b + 28) = cI 1024 (fun _ => 0) := by rw [Eh24, hp_ne (by omega)]; exact e28
  have r19 : ∀ i, i < 5 → h24 (b + 19 + i) = cI 4 (fun _ => 0) := fun i hi => by rw [Eh24, hp_ne (by omega)]; exact r19 i hi
  have p1 := p1.gw (n' := b + 30) (h' := h24) (by omega) (fun k k1 k2 => by rw [Eh24, hp_ne (by omega)])
  have hB := hB.put Eh24 (by omega)
  refine r_putF (pc' := 110) fp_RX1_51 rfl (dk_at dkX1_init 51 rfl) ⟨by omega, e0⟩ (Nat.le_of_ble_eq_true rfl) (PT_arr _ _) rfl (fun h25 Eh25 => ?_)
  have e0 : h25 b = cO 1 [vR (b + 1), vI 0, vI 0, vJ 0, vJ 0, vI 0, vR (b + 14), vR (b + 15), vR (b + 16), vR (b + 17), vR (b + 18), vR (b + 24), vR (b + 25), vR (b + 26), vR (b + 27), vI 0, vR (b + 28), vR (b + 29), vN] := by rw [Eh25, hp_eq]; rfl
  have e14 : h25 (b + 14) = cI 256 (fun _ => 0) := by rw [Eh25, hp_ne (by omega)]; exact e14
  have e15 : h25 (b + 15) = cI 256 (fun _ => 0) := by rw [Eh25, hp_ne (by omega)]; exact e15
  have e16 : h25 (b + 16) = cI 256 (fun _ => 0) := by rw [Eh25, hp_ne (by omega)]; exact e16
  have e17 : h25 (b + 17) = cI 256 (fun _ => 0) := by rw [Eh25, hp_ne (by omega)]; exact e17
  have e18 : h25 (b + 18) = cR 1 5 (rowsF (b + 19) 5) := by rw [Eh25, hp_ne (by omega)]; exact e18
  have e24 : h25 (b + 24) = cI 4 (fun _ => 0) := by rw [Eh25, hp_ne (by omega)]; exact e24
  have e25 : h25 (b + 25) = cI 8 (fun _ => 0) := by rw [Eh25, hp_ne (by omega)]; exact e25
  have e26 : h25 (b + 26) = cI 8 (fun _ => 0) := by rw [Eh25, hp_ne (by omega)]; exact e26
  have e27 : h25 (b + 27) = cI 8 (fun _ => 0) := by rw [Eh25, hp_ne (by omega)]; exact e27
  have e28 : h25 (b + 28) = cI 1024 (fun _ => 0) := by rw [Eh25, hp_ne (by omega)]; exact e28
  have e29 : h25 (b + 29) = cI 3072 (fun _ => 0) := by rw [Eh25, hp_ne (by omega)]; exact e29
  have r19 : ∀ i, i < 5 → h25 (b + 19 + i) = cI 4 (fun _ => 0) := fun i hi => by rw [Eh25, hp_ne (by omega)]; exact r19 i hi
  have p1 := p1.gw (n' := b + 30) (h' := h25) (by omega) (fun k k1 k2 => by rw [Eh25, hp_ne (by omega)])
  have hB := hB.put Eh25 (by omega)
  refine q_aload_n (pc' := 111) (dk_at dkX1_init 52 rfl) rfl rfl ?_
  refine q_sipush (pc' := 114) (dk_at dkX1_init 53 rfl) (by decide +kernel) rfl ?_
  refine r_newJ (pc' := 116) (n' := b + 31) 3072 rfl (dk_at dkX1_init 54 rfl) (by decide) (by decide) (by decide) rfl (by omega) (fun h26 Eh26 => ?_)
  have e30 : h26 (b + 30) = cJ 3072 (fun _ => 0) := by rw [Eh26, hp_eq]
  have e0 : h26 b = cO 1 [vR (b + 1), vI 0, vI 0, vJ 0, vJ 0, vI 0, vR (b + 14), vR (b + 15), vR (b + 16), vR (b + 17), vR (b + 18), vR (b + 24), vR (b + 25), vR (b + 26), vR (b + 27), vI 0, vR (b + 28), vR (b + 29), vN] := by rw [Eh26, hp_ne (by omega)]; exact e0
  have e14 : h26 (b + 14) = cI 256 (fun _ => 0) := by rw [Eh26, hp_ne (by omega)]; exact e14
  have e15 : h26 (b + 15) = cI 256 (fun _ => 0) := by rw [Eh26, hp_ne (by omega)]; exact e15
  have e16 : h26 (b + 16) = cI 256 (fun _ => 0) := by rw [Eh26, hp_ne (by omega)]; exact e16
  have e17 : h26 (b + 17) = cI 256 (fun _ => 0) := by rw [Eh26, hp_ne (by omega)]; exact e17
  have e18 : h26 (b + 18) = cR 1 5 (rowsF (b + 19) 5) := by rw [Eh26, hp_ne (by omega)]; exact e18
  have e24 : h26 (b + 24) = cI 4 (fun _ => 0) := by rw [Eh26, hp_ne (by omega)]; exact e24
  have e25 : h26 (b + 25) = cI 8 (fun _ => 0) := by rw [Eh26, hp_ne (by omega)]; exact e25
  have e26 : h26 (b + 26) = cI 8 (fun _ => 0) := by rw [Eh26, hp_ne (by omega)]; exact e26
  have e27 : h26 (b + 27) = cI 8 (fun _ => 0) := by rw [Eh26, hp_ne (by omega)]; exact e27
  have e28 : h26 (b + 28) = cI 1024 (fun _ => 0) := by rw [Eh26, hp_ne (by omega)]; exact e28
  have e29 : h26 (b + 29) = cI 3072 (fun _ => 0) := by rw [Eh26, hp_ne (by omega)]; exact e29
  have r19 : ∀ i, i < 5 → h26 (b + 19 + i) = cI 4 (fun _ => 0) := fun i hi => by rw [Eh26, hp_ne (by omega)]; exact r19 i hi
  have p1 := p1.gw (n' := b + 31) (h' := h26) (by omega) (fun k k1 k2 => by rw [Eh26, hp_ne (by omega)])
  have hB := hB.put Eh26 (by omega)
  refine r_putF (pc' := 119) fp_RX1_54 rfl (dk_at dkX1_init 55 rfl) ⟨by omega, e0⟩ (Nat.le_of_ble_eq_true rfl) (PT_arr _ _) rfl (fun h27 Eh27 => ?_)
  have e0 : h27 b = cO 1 [vR (b + 1), vI 0, vI 0, vJ 0, vJ 0, vI 0, vR (b + 14), vR (b + 15), vR (b + 16), vR (b + 17), vR (b + 18), vR (b + 24), vR (b + 25), vR (b + 26), vR (b + 27), vI 0, vR (b + 28), vR (b + 29), vR (b + 30)] := by rw [Eh27, hp_eq]; rfl
  have e14 : h27 (b + 14) = cI 256 (fun _ => 0) := by rw [Eh27, hp_ne (by omega)]; exact e14
  have e15 : h27 (b + 15) = cI 256 (fun _ => 0) := by rw [Eh27, hp_ne (by omega)]; exact e15
  have e16 : h27 (b + 16) = cI 256 (fun _ => 0) := by rw [Eh27, hp_ne (by omega)]; exact e16
  have e17 : h27 (b + 17) = cI 256 (fun _ => 0) := by rw [Eh27, hp_ne (by omega)]; exact e17
  have e18 : h27 (b + 18) = cR 1 5 (rowsF (b + 19) 5) := by rw [Eh27, hp_ne (by omega)]; exact e18
  have e24 : h27 (b + 24) = cI 4 (fun _ => 0) := by rw [Eh27, hp_ne (by omega)]; exact e24
  have e25 : h27 (b + 25) = cI 8 (fun _ => 0) := by rw [Eh27, hp_ne (by omega)]; exact e25
  have e26 : h27 (b + 26) = cI 8 (fun _ => 0) := by rw [Eh27, hp_ne (by omega)]; exact e26
  have e27 : h27 (b + 27) = cI 8 (fun _ => 0) := by rw [Eh27, hp_ne (by omega)]; exact e27
  have e28 : h27 (b + 28) = cI 1024 (fun _ => 0) := by rw [Eh27, hp_ne (by omega)]; exact e28
  have e29 : h27 (b + 29) = cI 3072 (fun _ => 0) := by rw [Eh27, hp_ne (by omega)]; exact e29
  have e30 : h27 (b + 30) = cJ 3072 (fun _ => 0) := by rw [Eh27, hp_ne (by omega)]; exact e30
  have r19 : ∀ i, i < 5 → h27 (b + 19 + i) = cI 4 (fun _ => 0) := fun i hi => by rw [Eh27, hp_ne (by omega)]; exact r19 i hi
  have p1 := p1.gw (n' := b + 31) (h' := h27) (by omega) (fun k k1 k2 => by rw [Eh27, hp_ne (by omega)])
  have hB := hB.put Eh27 (by omega)
  refine q_vret rfl (dk_at dkX1_init 56 rfl) (by decide) (by decide) ?_
  exact ⟨rfl, rfl, ⟨S00, 0, (fun _ => 0), 0, 0, 0, 0, 0, (fun _ => 0), (fun _ => 0), (fun _ => 0), (fun _ => 0), (fun _ => 0), (fun _ => 0), (fun _ => 0), (fun _ => 0), (fun _ => 0), (fun _ => 0), (fun _ _ => 0), ⟨⟨by omega, e0⟩, ⟨by omega, e14⟩, ⟨by omega, e15⟩, ⟨by omega, e16⟩, ⟨by omega, e17⟩, ⟨by omega, e24⟩, ⟨by omega, e25⟩, ⟨by omega, e26⟩, ⟨by omega, e27⟩, ⟨by omega, e28⟩, ⟨by omega, e29⟩, ⟨by omega, e30⟩, ⟨by omega, e18⟩, fun i hi => ⟨by omega, r19 i hi⟩⟩, p1, fun _ => ⟨Int.le_refl _, show (0 : Int) ≤ 7 by decide⟩, fun _ => ⟨Int.le_refl _, show (0 : Int) ≤ 100000 by decide⟩, fun _ => ⟨show (-4000000000000 : Int) ≤ 0 by decide, show (0 : Int) ≤ 4000000000000 by decide⟩⟩, hB⟩

def cs0 : CS := (sn0, 0, fun _ => sn0, fun _ => 0, 0)
theorem svF_0 (b : Nat) : upr (upr (upr (upr (fun _ => none) 0 (some (b + 19))) 1 (some (b + 36))) 2 (some (b + 53))) 3 (some (b + 70)) = svF b (fun i => i) := by
  funext i
  unfold upr svF
  rcases (show i = 0 ∨ i = 1 ∨ i = 2 ∨ i = 3 ∨ 4 ≤ i by omega) with q | q | q | q | q
  · subst q; rfl
  · subst q; rfl
  · subst q; rfl
  · subst q; rfl
  · rw [if_neg (by omega), if_neg (by omega), if_neg (by omega), if_neg (by omega), if_neg (by omega)]
set_option maxHeartbeats 4000000 in
set_option maxRecDepth 100000 in
theorem k_init5 {d b : Nat} {h : PH} (e0 : h b = cO 5 [vN, vN, vI 0, vN, vI 0, vN, vN, vN, vN]) (hd : 3 ≤ d) : Ctr mX5_init d 148 9097 true [vR b] (b + 1) h (fun r n' h' => r = none ∧ n' = b + 149 ∧ BMI (b + 149) h' b cs0 ∧ Bel h h' b) := by
  have hB := Bel.rf h b
  refine q_beginN (L := [some (vR b), none]) rfl ?_
  refine q_aload_n (pc' := 1) (dk_at dkX5_init 0 rfl) rfl rfl ?_
  refine q_objInit (pc' := 4) jo_RX5_1 (dk_at dkX5_init 1 rfl) (by omega) (Nat.zero_le _) rfl ?_
  refine q_aload_n (pc' := 5) (dk_at dkX5_init 2 rfl) rfl rfl ?_
  refine r_new (pc' := 8) (n' := b + 2) nw_RX5_7 (dk_at dkX5_init 3 rfl) (by decide) (by decide) rfl (by omega) (fun h1 Eh1 => ?_)
  have e1 : h1 (b + 1) = cO 3 [vN, vN, vI 0, vJ 0] := by rw [Eh1, hp_eq]
  have e0 : h1 b = cO 5 [vN, vN, vI 0, vN, vI 0, vN, vN, vN, vN] := by rw [Eh1, hp_ne (by omega)]; exact e0
  have hB := hB.put Eh1 (by omega)
  refine q_dup (pc' := 9) (fun _ => rfl) (dk_at dkX5_init 4 rfl) rfl ?_
  refine q_callIN (pc' := 12) (mc' := 16) (ms' := 96) ci_RX5_9 (dk_at dkX5_init 5 rfl) (k_init3 (d := 2) (b := b + 1) e1 (by omega)) (by omega) (by decide) (by decide) (Nat.le_of_ble_eq_true rfl) (Nat.le_of_ble_eq_true rfl) rfl ?_
  rintro r n1 h2 ⟨hr, hn1, p1, hb1⟩
  subst hr
  subst hn1
  show QW _ _ _ _ _ _ _ _ _ [vR (b + 1), vR b] _ (b + 18) _
  have e0 : h2 b = cO 5 [vN, vN, vI 0, vN, vI 0, vN, vN, vN, vN] := by rw [hb1 _ (by omega)]; exact e0
  have hB := hB.tr hb1 (by omega)
  refine r_putF (pc' := 15) fp_RX5_10 rfl (dk_at dkX5_init 6 rfl) ⟨by omega, e0⟩ (Nat.le_of_ble_eq_true rfl) (PT_obj _ _) rfl (fun h3 Eh3 => ?_)
  have e0 : h3 b = cO 5 [vR (b + 1), vN, vI 0, vN, vI 0, vN, vN, vN, vN] := by rw [Eh3, hp_eq]; rfl
  have p1 := p1.gw (n' := b + 18) (h' := h3) (by omega) (fun k k1 k2 => by rw [Eh3, hp_ne (by omega)])
  have hB := hB.put Eh3 (by omega)
  refine q_aload_n (pc' := 16) (dk_at dkX5_init 7 rfl) rfl rfl ?_
  refine q_iconst (pc' := 17) (dk_at dkX5_init 8 rfl) rfl ?_
  refine r_newS (pc' := 20) (n' := b + 19) 4 rfl kl_RX5_7 (dk_at dkX5_init 9 rfl) (by decide) (by decide) (by decide) rfl (by omega) (fun h4 Eh4 => ?_)
  have e18 : h4 (b + 18) = cR 0 4 (fun _ => none) := by rw [Eh4, hp_eq]
  have e0 : h4 b = cO 5 [vR (b + 1), vN, vI 0, vN, vI 0, vN, vN, vN, vN] := by rw [Eh4, hp_ne (by omega)]; exact e0
  have p1 := p1.gw (n' := b + 19) (h' := h4) (by omega) (fun k k1 k2 => by rw [Eh4, hp_ne (by omega)])
  have hB := hB.put Eh4 (by omega)
  refine r_putF (pc' := 23) fp_RX5_16 rfl (dk_at dkX5_init 10 rfl) ⟨by omega, e0⟩ (Nat.le_of_ble_eq_true rfl) (PT_arr _ _) rfl (fun h5 Eh5 => ?_)
  have e0 : h5 b = cO 5 [vR (b + 1), vR (b + 18), vI 0, vN, vI 0, vN, vN, vN, vN] := by rw [Eh5, hp_eq]; rfl
  have e18 : h5 (b + 18) = cR 0 4 (fun _ => none) := by rw [Eh5, hp_ne (by omega)]; exact e18
  have p1 := p1.gw (n' := b + 19) (h' := h5) (by omega) (fun k k1 k2 => by rw [Eh5, hp_ne (by omega)])
  have hB := hB.put Eh5 (by omega)
  refine q_iconst (pc' := 24) (dk_at dkX5_init 11 rfl) rfl ?_
  refine q_istore_n (pc' := 25) (L' := [some (vR b), some (vI 0)]) (dk_at dkX5_init 12 rfl) (by decide) rfl rfl ?_
  refine q_iload_n (pc' := 26) (dk_at dkX5_init 13 rfl) rfl rfl ?_
  refine q_iconst (pc' := 27) (dk_at dkX5_init 14 rfl) rfl ?_
  refine q_icmp_ge (tgt := 49) (pc' := 30) (dk_at dkX5_init 15 rfl) rfl rfl (by omega) (by omega) (fun cc => (by exfalso; omega)) (fun cc => ?_)
  refine q_aload_n (pc' := 31) (dk_at dkX5_init 16 rfl) rfl rfl ?_
  refine r_getf (pc' := 34) fl_RX5_16 (dk_at dkX5_init 17 rfl) ⟨by omega, e0⟩ rfl rfl ?_
  refine q_iload_n (pc' := 35) (dk_at dkX5_init 18 rfl) rfl rfl ?_
  refine r_new (pc' := 38) (n' := b + 20) nw_RX5_7 (dk_at dkX5_init 19 rfl) (by decide) (by decide) rfl (by omega) (fun h6 Eh6 => ?_)
  have e19 : h6 (b + 19) = cO 3 [vN, vN, vI 0, vJ 0] := by rw [Eh6, hp_eq]
  have e0 : h6 b = cO 5 [vR (b + 1), vR (b + 18), vI 0, vN, vI 0, vN, vN, vN, vN] := by rw [Eh6, hp_ne (by omega)]; exact e0
  have e18 : h6 (b + 18) = cR 0 4 (fun _ => none) := by rw [Eh6, hp_ne (by omega)]; exact e18
  have p1 := p1.gw (n' := b + 20) (h' := h6) (by omega) (fun k k1 k2 => by rw [Eh6, hp_ne (by omega)])
  have hB := hB.put Eh6 (by omega)
  refine q_dup (pc' := 39) (fun _ => rfl) (dk_at dkX5_init 20 rfl) rfl ?_
  refine q_callIN (pc' := 42) (mc' := 16) (ms' := 96) ci_RX5_9 (dk_at dkX5_init 21 rfl) (k_init3 (d := 2) (b := b + 19) e19 (by omega)) (by omega) (by decide) (by decide) (Nat.le_of_ble_eq_true rfl) (Nat.le_of_ble_eq_true rfl) rfl ?_
  rintro r n1 h7 ⟨hr, hn1, p19, hb1⟩
  subst hr
  subst hn1
  show QW _ _ _ _ _ _ _ _ _ [vR (b + 19), vI 0, vR (b + 18)] _ (b + 36) _
  have e0 : h7 b = cO 5 [vR (b + 1), vR (b + 18), vI 0, vN, vI 0, vN, vN, vN, vN] := by rw [hb1 _ (by omega)]; exact e0
  have e18 : h7 (b + 18) = cR 0 4 (fun _ => none) := by rw [hb1 _ (by omega)]; exact e18
  have p1 := p1.gw (n' := b + 36) (h' := h7) (by omega) (fun k k1 k2 => hb1 k (by omega))
  have hB := hB.tr hb1 (by omega)
  refine r_aast (pc' := 43) (r := b + 19) (dk_at dkX5_init 22 rfl) ⟨by omega, e18⟩ 0 rfl (by omega) (by decide) p19.1 rfl (fun h8 Eh8 => ?_)
  have e18 : h8 (b + 18) = cR 0 4 (upr (fun _ => none) 0 (some (b + 19))) := by rw [Eh8, hp_eq]
  have e0 : h8 b = cO 5 [vR (b + 1), vR (b + 18), vI 0, vN, vI 0, vN, vN, vN, vN] := by rw [Eh8, hp_ne (by omega)]; exact e0
  have p1 := p1.gw (n' := b + 36) (h' := h8) (by omega) (fun k k1 k2 => by rw [Eh8, hp_ne (by omega)])
  have p19 := p19.gw (n' := b + 36) (h' := h8) (by omega) (fun k k1 k2 => by rw [Eh8, hp_ne (by omega)])
  have hB := hB.put Eh8 (by omega)
  refine q_iinc (pc' := 46) (L' := [some (vR b), some (vI (0 + 1))]) (dk_at dkX5_init 23 rfl) (by decide) rfl rfl rfl ?_
  rw [show ((0 + 1) : Int) = 1 from rfl]
  refine q_goto (tgt := 25) (dk_at dkX5_init 24 rfl) rfl ?_
  refine q_iload_n (pc' := 26) (dk_at dkX5_init 13 rfl) rfl rfl ?_
  refine q_iconst (pc' := 27) (dk_at dkX5_init 14 rfl) rfl ?_
  refine q_icmp_ge (tgt := 49) (pc' := 30) (dk_at dkX5_init 15 rfl) rfl rfl (by omega) (by omega) (fun cc => (by exfalso; omega)) (fun cc => ?_)
  refine q_aload_n (pc' := 31) (dk_at dkX5_init 16 rfl) rfl rfl ?_
  refine r_getf (pc' := 34) fl_RX5_16 (dk_at dkX5_init 17 rfl) ⟨by omega, e0⟩ rfl rfl ?_
  refine q_iload_n (pc' := 35) (dk_at dkX5_init 18 rfl) rfl rfl ?_
  refine r_new (pc' := 38) (n' := b + 37) nw_RX5_7 (dk_at dkX5_init 19 rfl) (by decide) (by decide) rfl (by omega) (fun h9 Eh9 => ?_)
  have e36 : h9 (b + 36) = cO 3 [vN, vN, vI 0, vJ 0] := by rw [Eh9, hp_eq]
  have e0 : h9 b = cO 5 [vR (b + 1), vR (b + 18), vI 0, vN, vI 0, vN, vN, vN, vN] := by rw [Eh9, hp_ne (by omega)]; exact e0
  have e18 : h9 (b + 18) = cR 0 4 (upr (fun _ => none) 0 (some (b + 19))) := by rw [Eh9, hp_ne (by omega)]; exact e18
  have p1 := p1.gw (n' := b + 37) (h' := h9) (by omega) (fun k k1 k2 => by rw [Eh9, hp_ne (by omega)])
  have p19 := p19.gw (n' := b + 37) (h' := h9) (by omega) (fun k k1 k2 => by rw [Eh9, hp_ne (by omega)])
  have hB := hB.put Eh9 (by omega)
  refine q_dup (pc' := 39) (fun _ => rfl) (dk_at dkX5_init 20 rfl) rfl ?_
  refine q_callIN (pc' := 42) (mc' := 16) (ms' := 96) ci_RX5_9 (dk_at dkX5_init 21 rfl) (k_init3 (d := 2) (b := b + 36) e36 (by omega)) (by omega) (by decide) (by decide) (Nat.le_of_ble_eq_true rfl) (Nat.le_of_ble_eq_true rfl) rfl ?_
  rintro r n1 h10 ⟨hr, hn1, p36, hb1⟩
  subst hr
  subst hn1
  show QW _ _ _ _ _ _ _ _ _ [vR (b + 36), vI 1, vR (b + 18)] _ (b + 53) _
  have e0 : h10 b = cO 5 [vR (b + 1), vR (b + 18), vI 0, vN, vI 0, vN, vN, vN, vN] := by rw [hb1 _ (by omega)]; exact e0
  have e18 : h10 (b + 18) = cR 0 4 (upr (fun _ => none) 0 (some (b + 19))) := by rw [hb1 _ (by omega)]; exact e18
  have p1 := p1.gw (n' := b + 53) (h' := h10) (by omega) (fun k k1 k2 => hb1 k (by omega))
  have p19 := p19.gw (n' := b + 53) (h' := h10) (by omega) (fun k k1 k2 => hb1 k (by omega))
  have hB := hB.tr hb1 (by omega)
  refine r_aast (pc' := 43) (r := b + 36) (dk_at dkX5_init 22 rfl) ⟨by omega, e18⟩ 1 rfl (by omega) (by decide) p36.1 rfl (fun h11 Eh11 => ?_)
  have e18 : h11 (b + 18) = cR 0 4 (upr (upr (fun _ => none) 0 (some (b + 19))) 1 (some (b + 36))) := by rw [Eh11, hp_eq]
  have e0 : h11 b = cO 5 [vR (b + 1), vR (b + 18), vI 0, vN, vI 0, vN, vN, vN, vN] := by rw [Eh11, hp_ne (by omega)]; exact e0
  have p1 := p1.gw (n' := b + 53) (h' := h11) (by omega) (fun k k1 k2 => by rw [Eh11, hp_ne (by omega)])
  have p19 := p19.gw (n' := b + 53) (h' := h11) (by omega) (fun k k1 k2 => by rw [Eh11, hp_ne (by omega)])
  have p36 := p36.gw (n' := b + 53) (h' := h11) (by omega) (fun k k1 k2 => by rw [Eh11, hp_ne (by omega)])
  have hB := hB.put Eh11 (by omega)
  refine q_iinc (pc' := 46) (L' := [some (vR b), some (vI (1 + 1))]) (dk_at dkX5_init 23 rfl) (by decide) rfl rfl rfl ?_
  rw [show ((1 + 1) : Int) = 2 from rfl]
  refine q_goto (tgt := 25) (dk_at dkX5_init 24 rfl) rfl ?_
  refine q_iload_n (pc' := 26) (dk_at dkX5_init 13 rfl) rfl rfl ?_
  refine q_iconst (pc' := 27) (dk_at dkX5_init 14 rfl) rfl ?_
  refine q_icmp_ge (tgt := 49) (pc' := 30) (dk_at dkX5_init 15 rfl) rfl rfl (by omega) (by omega) (fun cc => (by exfalso; omega)) (fun cc => ?_)
  refine q_aload_n (pc' := 31) (dk_at dkX5_init 16 rfl) rfl rfl ?_
  refine r_getf (pc' := 34) fl_RX5_16 (dk_at dkX5_init 17 rfl) ⟨by omega, e0⟩ rfl rfl ?_
  refine q_iload_n (pc' := 35) (dk_at dkX5_init 18 rfl) rfl rfl ?_
  refine r_new (pc' := 38) (n' := b + 54) nw_RX5_7 (dk_at dkX5_init 19 rfl) (by decide) (by decide) rfl (by omega) (fun h12 Eh12 => ?_)
  have e53 : h12 (b + 53) = cO 3 [vN, vN, vI 0, vJ 0] := by rw [Eh12, hp_eq]
  have e0 : h12 b = cO 5 [vR (b + 1), vR (b + 18), vI 0, vN, vI 0, vN, vN, vN, vN] := by rw [Eh12, hp_ne (by omega)]; exact e0
  have e18 : h12 (b + 18) = cR 0 4 (upr (upr (fun _ => none) 0 (some (b + 19))) 1 (some (b + 36))) := by rw [Eh12, hp_ne (by omega)]; exact e18
  have p1 := p1.gw (n' := b + 54) (h' := h12) (by omega) (fun k k1 k2 => by rw [Eh12, hp_ne (by omega)])
  have p19 := p19.gw (n' := b + 54) (h' := h12) (by omega) (fun k k1 k2 => by rw [Eh12, hp_ne (by omega)])
  have p36 := p36.gw (n' := b + 54) (h' := h12) (by omega) (fun k k1 k2 => by rw [Eh12, hp_ne (by omega)])
  have hB := hB.put Eh12 (by omega)
  refine q_dup (pc' := 39) (fun _ => rfl) (dk_at dkX5_init 20 rfl) rfl ?_
  refine q_callIN (pc' := 42) (mc' := 16) (ms' := 96) ci_RX5_9 (dk_at dkX5_init 21 rfl) (k_init3 (d := 2) (b := b + 53) e53 (by omega)) (by omega) (by decide) (by decide) (Nat.le_of_ble_eq_true rfl) (Nat.le_of_ble_eq_true rfl) rfl ?_
  rintro r n1 h13 ⟨hr, hn1, p53, hb1⟩
  subst hr
  subst hn1
  show QW _ _ _ _ _ _ _ _ _ [vR (b + 53), vI 2, vR (b + 18)] _ (b + 70) _
  have e0 : h13 b = cO 5 [vR (b + 1), vR (b + 18), vI 0, vN, vI 0, vN, vN, vN, vN] := by rw [hb1 _ (by omega)]; exact e0
  have e18 : h13 (b + 18) = cR 0 4 (upr (upr (fun _ => none) 0 (some (b + 19))) 1 (some (b + 36))) := by rw [hb1 _ (by omega)]; exact e18
  have p1 := p1.gw (n' := b + 70) (h' := h13) (by omega) (fun k k1 k2 => hb1 k (by omega))
  have p19 := p19.gw (n' := b + 70) (h' := h13) (by omega) (fun k k1 k2 => hb1 k (by omega))
  have p36 := p36.gw (n' := b + 70) (h' := h13) (by omega) (fun k k1 k2 => hb1 k (by omega))
  have hB := hB.tr hb1 (by omega)
  refine r_aast (pc' := 43) (r := b + 53) (dk_at dkX5_init 22 rfl) ⟨by omega, e18⟩ 2 rfl (by omega) (by decide) p53.1 rfl (fun h14 Eh14 => ?_)
  have e18 : h14 (b + 18) = cR 0 4 (upr (upr (upr (fun _ => none) 0 (some (b + 19))) 1 (some (b + 36))) 2 (some (b + 53))) := by rw [Eh14, hp_eq]
  have e0 : h14 b = cO 5 [vR (b + 1), vR (b + 18), vI 0, vN, vI 0, vN, vN, vN, vN] := by rw [Eh14, hp_ne (by omega)]; exact e0
  have p1 := p1.gw (n' := b + 70) (h' := h14) (by omega) (fun k k1 k2 => by rw [Eh14, hp_ne (by omega)])
  have p19 := p19.gw (n' := b + 70) (h' := h14) (by omega) (fun k k1 k2 => by rw [Eh14, hp_ne (by omega)])
  have p36 := p36.gw (n' := b + 70) (h' := h14) (by omega) (fun k k1 k2 => by rw [Eh14, hp_ne (by omega)])
  have p53 := p53.gw (n' := b + 70) (h' := h14) (by omega) (fun k k1 k2 => by rw [Eh14, hp_ne (by omega)])
  have hB := hB.put Eh14 (by omega)
  refine q_iinc (pc' := 46) (L' := [some (vR b), some (vI (2 + 1))]) (dk_at dkX5_init 23 rfl) (by decide) rfl rfl rfl ?_
  rw [show ((2 + 1) : Int) = 3 from rfl]
  refine q_goto (tgt := 25) (dk_at dkX5_init 24 rfl) rfl ?_
  refine q_iload_n (pc' := 26) (dk_at dkX5_init 13 rfl) rfl rfl ?_
  refine q_iconst (pc' := 27) (dk_at dkX5_init 14 rfl) rfl ?_
  refine q_icmp_ge (tgt := 49) (pc' := 30) (dk_at dkX5_init 15 rfl) rfl rfl (by omega) (by omega) (fun cc => (by exfalso; omega)) (fun cc => ?_)
  refine q_aload_n (pc' := 31) (dk_at dkX5_init 16 rfl) rfl rfl ?_
  refine r_getf (pc' := 34) fl_RX5_16 (dk_at dkX5_init 17 rfl) ⟨by omega, e0⟩ rfl rfl ?_
  refine q_iload_n (pc' := 35) (dk_at dkX5_init 18 rfl) rfl rfl ?_
  refine r_new (pc' := 38) (n' := b + 71) nw_RX5_7 (dk_at dkX5_init 19 rfl) (by decide) (by decide) rfl (by omega) (fun h15 Eh15 => ?_)
  have e70 : h15 (b + 70) = cO 3 [vN, vN, vI 0, vJ 0] := by rw [Eh15, hp_eq]
  have e0 : h15 b = cO 5 [vR (b + 1), vR (b + 18), vI 0, vN, vI 0, vN, vN, vN, vN] := by rw [Eh15, hp_ne (by omega)]; exact e0
  have e18 : h15 (b + 18) = cR 0 4 (upr (upr (upr (fun _ => none) 0 (some (b + 19))) 1 (some (b + 36))) 2 (some (b + 53))) := by rw [Eh15, hp_ne (by omega)]; exact e18
  have p1 := p1.gw (n' := b + 71) (h' := h15) (by omega) (fun k k1 k2 => by rw [Eh15, hp_ne (by omega)])
  have p19 := p19.gw (n' := b + 71) (h' := h15) (by omega) (fun k k1 k2 => by rw [Eh15, hp_ne (by omega)])
  have p36 := p36.gw (n' := b + 71) (h' := h15) (by omega) (fun k k1 k2 => by rw [Eh15, hp_ne (by omega)])
  have p53 := p53.gw (n' := b + 71) (h' := h15) (by omega) (fun k k1 k2 => by rw [Eh15, hp_ne (by omega)])
  have hB := hB.put Eh15 (by omega)
  refine q_dup (pc' := 39) (fun _ => rfl) (dk_at dkX5_init 20 rfl) rfl ?_
  refine q_callIN (pc' := 42) (mc' := 16) (ms' := 96) ci_RX5_9 (dk_at dkX5_init 21 rfl) (k_init3 (d := 2) (b := b + 70) e70 (by omega)) (by omega) (by decide) (by decide) (Nat.le_of_ble_eq_true rfl) (Nat.le_of_ble_eq_true rfl) rfl ?_
  rintro r n1 h16 ⟨hr, hn1, p70, hb1⟩
  subst hr
  subst hn1
  show QW _ _ _ _ _ _ _ _ _ [vR (b + 70), vI 3, vR (b + 18)] _ (b + 87) _
  have e0 : h16 b = cO 5 [vR (b + 1), vR (b + 18), vI 0, vN, vI 0, vN, vN, vN, vN] := by rw [hb1 _ (by omega)]; exact e0
  have e18 : h16 (b + 18) = cR 0 4 (upr (upr (upr (fun _ => none) 0 (some (b + 19))) 1 (some (b + 36))) 2 (some (b + 53))) := by rw [hb1 _ (by omega)]; exact e18
  have p1 := p1.gw (n' := b + 87) (h' := h16) (by omega) (fun k k1 k2 => hb1 k (by omega))
  have p19 := p19.gw (n' := b + 87) (h' := h16) (by omega) (fun k k1 k2 => hb1 k (by omega))
  have p36 := p36.gw (n' := b + 87) (h' := h16) (by omega) (fun k k1 k2 => hb1 k (by omega))
  have p53 := p53.gw (n' := b + 87) (h' := h16) (by omega) (fun k k1 k2 => hb1 k (by omega))
  have hB := hB.tr hb1 (by omega)
  refine r_aast (pc' := 43) (r := b + 70) (dk_at dkX5_init 22 rfl) ⟨by omega, e18⟩ 3 rfl (by omega) (by decide) p70.1 rfl (fun h17 Eh17 => ?_)
  have e18 : h17 (b + 18) = cR 0 4 (upr (upr (upr (upr (fun _ => none) 0 (some (b + 19))) 1 (some (b + 36))) 2 (some (b + 53))) 3 (some (b + 70))) := by rw [Eh17, hp_eq]
  have e0 : h17 b = cO 5 [vR (b + 1), vR (b + 18), vI 0, vN, vI 0, vN, vN, vN, vN] := by rw [Eh17, hp_ne (by omega)]; exact e0
  have p1 := p1.gw (n' := b + 87) (h' := h17) (by omega) (fun k k1 k2 => by rw [Eh17, hp_ne (by omega)])
  have p19 := p19.gw (n' := b + 87) (h' := h17) (by omega) (fun k k1 k2 => by rw [Eh17, hp_ne (by omega)])
  have p36 := p36.gw (n' := b + 87) (h' := h17) (by omega) (fun k k1 k2 => by rw [Eh17, hp_ne (by omega)])
  have p53 := p53.gw (n' := b + 87) (h' := h17) (by omega) (fun k k1 k2 => by rw [Eh17, hp_ne (by omega)])
  have p70 := p70.gw (n' := b + 87) (h' := h17) (by omega) (fun k k1 k2 => by rw [Eh17, hp_ne (by omega)])
  have hB := hB.put Eh17 (by omega)
  refine q_iinc (pc' := 46) (L' := [some (vR b), some (vI (3 + 1))]) (dk_at dkX5_init 23 rfl) (by decide) rfl rfl rfl ?_
  rw [show ((3 + 1) : Int) = 4 from rfl]
  refine q_goto (tgt := 25) (dk_at dkX5_init 24 rfl) rfl ?_
  refine q_iload_n (pc' := 26) (dk_at dkX5_init 13 rfl) rfl rfl ?_
  refine q_iconst (pc' := 27) (dk_at dkX5_init 14 rfl) rfl ?_
  refine q_icmp_ge (tgt := 49) (pc' := 30) (dk_at dkX5_init 15 rfl) rfl rfl (by omega) (by omega) (fun cc => ?_) (fun cc => (by exfalso; omega))
  refine q_aload_n (pc' := 50) (dk_at dkX5_init 25 rfl) rfl rfl ?_
  refine q_bipush (pc' := 52) (dk_at dkX5_init 26 rfl) (by decide +kernel) rfl ?_
  refine r_newI (pc' := 54) (n' := b + 88) 60 rfl (dk_at dkX5_init 27 rfl) (by decide) (by decide) (by decide) rfl (by omega) (fun h18 Eh18 => ?_)
  have e87 : h18 (b + 87) = cI 60 (fun _ => 0) := by rw [Eh18, hp_eq]
  have e0 : h18 b = cO 5 [vR (b + 1), vR (b + 18), vI 0, vN, vI 0, vN, vN, vN, vN] := by rw [Eh18, hp_ne (by omega)]; exact e0
  have e18 : h18 (b + 18) = cR 0 4 (upr (upr (upr (upr (fun _ => none) 0 (some (b + 19))) 1 (some (b + 36))) 2 (some (b + 53))) 3 (some (b + 70))) := by rw [Eh18, hp_ne (by omega)]; exact e18
  have p1 := p1.gw (n' := b + 88) (h' := h18) (by omega) (fun k k1 k2 => by rw [Eh18, hp_ne (by omega)])
  have p19 := p19.gw (n' := b + 88) (h' := h18) (by omega) (fun k k1 k2 => by rw [Eh18, hp_ne (by omega)])
  have p36 := p36.gw (n' := b + 88) (h' := h18) (by omega) (fun k k1 k2 => by rw [Eh18, hp_ne (by omega)])
  have p53 := p53.gw (n' := b + 88) (h' := h18) (by omega) (fun k k1 k2 => by rw [Eh18, hp_ne (by omega)])
  have p70 := p70.gw (n' := b + 88) (h' := h18) (by omega) (fun k k1 k2 => by rw [Eh18, hp_ne (by omega)])
  have hB := hB.put Eh18 (by omega)
  refine r_putF (pc' := 57) fp_RX5_20 rfl (dk_at dkX5_init 28 rfl) ⟨by omega, e0⟩ (Nat.le_of_ble_eq_true rfl) (PT_arr _ _) rfl (fun h19 Eh19 => ?_)
  have e0 : h19 b = cO 5 [vR (b + 1), vR (b + 18), vI 0, vR (b + 87), vI 0, vN, vN, vN, vN] := by rw [Eh19, hp_eq]; rfl
  have e18 : h19 (b + 18) = cR 0 4 (upr (upr (upr (upr (fun _ => none) 0 (some (b + 19))) 1 (some (b + 36))) 2 (some (b + 53))) 3 (some (b + 70))) := by rw [Eh19, hp_ne (by omega)]; exact e18
  have e87 : h19 (b + 87) = cI 60 (fun _ => 0) := by rw [Eh19, hp_ne (by omega)]; exact e87
  have p1 := p1.gw (n' := b + 88) (h' := h19) (by omega) (fun k k1 k2 => by rw [Eh19, hp_ne (by omega)])
  have p19 := p19.gw (n' := b + 88) (h' := h19) (by omega) (fun k k1 k2 => by rw [Eh19, hp_ne (by omega)])
  have p36 := p36.gw (n' := b + 88) (h' := h19) (by omega) (fun k k1 k2 => by rw [Eh19, hp_ne (by omega)])
  have p53 := p53.gw (n' := b + 88) (h' := h19) (by omega) (fun k k1 k2 => by rw [Eh19, hp_ne (by omega)])
  have p70 := p70.gw (n' := b + 88) (h' := h19) (by omega) (fun k k1 k2 => by rw [Eh19, hp_ne (by omega)])
  have hB := hB.put Eh19 (by omega)
  refine q_aload_n (pc' := 58) (dk_at dkX5_init 29 rfl) rfl rfl ?_
  refine r_new (pc' := 61) (n' := b + 89) nw_RX5_24 (dk_at dkX5_init 30 rfl) (by decide) (by decide) rfl (by omega) (fun h20 Eh20 => ?_)
  have e88 : h20 (b + 88) = cO 0 [vI 0, vI 0, vN, vN] := by rw [Eh20, hp_eq]
  have e0 : h20 b = cO 5 [vR (b + 1), vR (b + 18), vI 0, vR (b + 87), vI 0, vN, vN, vN, vN] := by rw [Eh20, hp_ne (by omega)]; exact e0
  have e18 : h20 (b + 18) = cR 0 4 (upr (upr (upr (upr (fun _ => none) 0 (some (b + 19))) 1 (some (b + 36))) 2 (some (b + 53))) 3 (some (b + 70))) := by rw [Eh20, hp_ne (by omega)]; exact e18
  have e87 : h20 (b + 87) = cI 60 (fun _ => 0) := by rw [Eh20, hp_ne (by omega)]; exact e87
  have p1 := p1.gw (n' := b + 89) (h' := h20) (by omega) (fun k k1 k2 => by rw [Eh20, hp_ne (by omega)])
  have p19 := p19.gw (n' := b + 89) (h' := h20) (by omega) (fun k k1 k2 => by rw [Eh20, hp_ne (by omega)])
  have p36 := p36.gw (n' := b + 89) (h' := h20) (by omega) (fun k k1 k2 => by rw [Eh20, hp_ne (by omega)])
  have p53 := p53.gw (n' := b + 89) (h' := h20) (by omega) (fun k k1 k2 => by rw [Eh20, hp_ne (by omega)])
  have p70 := p70.gw (n' := b + 89) (h' := h20) (by omega) (fun k k1 k2 => by rw [Eh20, hp_ne (by omega)])
  have hB := hB.put Eh20 (by omega)
  refine q_dup (pc' := 62) (fun _ => rfl) (dk_at dkX5_init 31 rfl) rfl ?_
  refine q_callIN (pc' := 65) (mc' := 2) (ms' := 16) ci_RX5_26 (dk_at dkX5_init 32 rfl) (k_init0 (d := 1) (b := b + 88) e88 (by omega)) (by omega) (by decide) (by decide) (Nat.le_of_ble_eq_true rfl) (Nat.le_of_ble_eq_true rfl) rfl ?_
  rintro r n1 h21 ⟨hr, hn1, p88, hb1⟩
  subst hr
  subst hn1
  show QW _ _ _ _ _ _ _ _ _ [vR (b + 88), vR b] _ (b + 91) _
  have e0 : h21 b = cO 5 [vR (b + 1), vR (b + 18), vI 0, vR (b + 87), vI 0, vN, vN, vN, vN] := by rw [hb1 _ (by omega)]; exact e0
  have e18 : h21 (b + 18) = cR 0 4 (upr (upr (upr (upr (fun _ => none) 0 (some (b + 19))) 1 (some (b + 36))) 2 (some (b + 53))) 3 (some (b + 70))) := by rw [hb1 _ (by omega)]; exact e18
  have e87 : h21 (b + 87) = cI 60 (fun _ => 0) := by rw [hb1 _ (by omega)]; exact e87
  have p1 := p1.gw (n' := b + 91) (h' := h21) (by omega) (fun k k1 k2 => hb1 k (by omega))
  have p19 := p19.gw (n' := b + 91) (h' := h21) (by omega) (fun k k1 k2 => hb1 k (by omega))
  have p36 := p36.gw (n' := b + 91) (h' := h21) (by omega) (fun k k1 k2 => hb1 k (by omega))
  have p53 := p53.gw (n' := b + 91) (h' := h21) (by omega) (fun k k1 k2 => hb1 k (by omega))
  have p70 := p70.gw (n' := b + 91) (h' := h21) (by omega) (fun k k1 k2 => hb1 k (by omega))
  have hB := hB.tr hb1 (by omega)
  refine r_putF (pc' := 68) fp_RX5_27 rfl (dk_at dkX5_init 33 rfl) ⟨by omega, e0⟩ (Nat.le_of_ble_eq_true rfl) (PT_obj _ _) rfl (fun h22 Eh22 => ?_)
  have e0 : h22 b = cO 5 [vR (b + 1), vR (b + 18), vI 0, vR (b + 87), vI 0, vR (b + 88), vN, vN, vN] := by rw [Eh22, hp_eq]; rfl
  have e18 : h22 (b + 18) = cR 0 4 (upr (upr (upr (upr (fun _ => none) 0 (some (b + 19))) 1 (some (b + 36))) 2 (some (b + 53))) 3 (some (b + 70))) := by rw [Eh22, hp_ne (by omega)]; exact e18
  have e87 : h22 (b + 87) = cI 60 (fun _ => 0) := by rw [Eh22, hp_ne (by omega)]; exact e87
  have p1 := p1.gw (n' := b + 91) (h' := h22) (by omega) (fun k k1 k2 => by rw [Eh22, hp_ne (by omega)])
  have p19 := p19.gw (n' := b + 91) (h' := h22) (by omega) (fun k k1 k2 => by rw [Eh22, hp_ne (by omega)])
  have p36 := p36.gw (n' := b + 91) (h' := h22) (by omega) (fun k k1 k2 => by rw [Eh22, hp_ne (by omega)])
  have p53 := p53.gw (n' := b + 91) (h' := h22) (by omega) (fun k k1 k2 => by rw [Eh22, hp_ne (by omega)])
  have p70 := p70.gw (n' := b + 91) (h' := h22) (by omega) (fun k k1 k2 => by rw [Eh22, hp_ne (by omega)])
  have p88 := p88.gw (n' := b + 91) (h' := h22) (by omega) (fun k k1 k2 => by rw [Eh22, hp_ne (by omega)])
  have hB := hB.put Eh22 (by omega)
  refine q_aload_n (pc' := 69) (dk_at dkX5_init 34 rfl) rfl rfl ?_
  refine r_new (pc' := 72) (n' := b + 92) nw_RX5_31 (dk_at dkX5_init 35 rfl) (by decide) (by decide) rfl (by omega) (fun h23 Eh23 => ?_)
  have e91 : h23 (b + 91) = cO 4 [vN, vN, vN, vI 0] := by rw [Eh23, hp_eq]
  have e0 : h23 b = cO 5 [vR (b + 1), vR (b + 18), vI 0, vR (b + 87), vI 0, vR (b + 88), vN, vN, vN] := by rw [Eh23, hp_ne (by omega)]; exact e0
  have e18 : h23 (b + 18) = cR 0 4 (upr (upr (upr (upr (fun _ => none) 0 (some (b + 19))) 1 (some (b + 36))) 2 (some (b + 53))) 3 (some (b + 70))) := by rw [Eh23, hp_ne (by omega)]; exact e18
  have e87 : h23 (b + 87) = cI 60 (fun _ => 0) := by rw [Eh23, hp_ne (by omega)]; exact e87
  have p1 := p1.gw (n' := b + 92) (h' := h23) (by omega) (fun k k1 k2 => by rw [Eh23, hp_ne (by omega)])
  have p19 := p19.gw (n' := b + 92) (h' := h23) (by omega) (fun k k1 k2 => by rw [Eh23, hp_ne (by omega)])
  have p36 := p36.gw (n' := b + 92) (h' := h23) (by omega) (fun k k1 k2 => by rw [Eh23, hp_ne (by omega)])
  have p53 := p53.gw (n' := b + 92) (h' := h23) (by omega) (fun k k1 k2 => by rw [Eh23, hp_ne (by omega)])
  have p70 := p70.gw (n' := b + 92) (h' := h23) (by omega) (fun k k1 k2 => by rw [Eh23, hp_ne (by omega)])
  have p88 := p88.gw (n' := b + 92) (h' := h23) (by omega) (fun k k1 k2 => by rw [Eh23, hp_ne (by omega)])
  have hB := hB.put Eh23 (by omega)
  refine q_dup (pc' := 73) (fun _ => rfl) (dk_at dkX5_init 36 rfl) rfl ?_
  refine q_callIN (pc' := 76) (mc' := 13) (ms' := 93) ci_RX5_33 (dk_at dkX5_init 37 rfl) (k_init4 (d := 1) (b := b + 91) e91 (by omega)) (by omega) (by decide) (by decide) (Nat.le_of_ble_eq_true rfl) (Nat.le_of_ble_eq_true rfl) rfl ?_
  rintro r n1 h24 ⟨hr, hn1, p91, hb1⟩
  subst hr
  subst hn1
  show QW _ _ _ _ _ _ _ _ _ [vR (b + 91), vR b] _ (b + 105) _
  have e0 : h24 b = cO 5 [vR (b + 1), vR (b + 18), vI 0, vR (b + 87), vI 0, vR (b + 88), vN, vN, vN] := by rw [hb1 _ (by omega)]; exact e0
  have e18 : h24 (b + 18) = cR 0 4 (upr (upr (upr (upr (fun _ => none) 0 (some (b + 19))) 1 (some (b + 36))) 2 (some (b + 53))) 3 (some (b + 70))) := by rw [hb1 _ (by omega)]; exact e18
  have e87 : h24 (b + 87) = cI 60 (fun _ => 0) := by rw [hb1 _ (by omega)]; exact e87
  have p1 := p1.gw (n' := b + 105) (h' := h24) (by omega) (fun k k1 k2 => hb1 k (by omega))
  have p19 := p19.gw (n' := b + 105) (h' := h24) (by omega) (fun k k1 k2 => hb1 k (by omega))
  have p36 := p36.gw (n' := b + 105) (h' := h24) (by omega) (fun k k1 k2 => hb1 k (by omega))
  have p53 := p53.gw (n' := b + 105) (h' := h24) (by omega) (fun k k1 k2 => hb1 k (by omega))
  have p70 := p70.gw (n' := b + 105) (h' := h24) (by omega) (fun k k1 k2 => hb1 k (by omega))
  have p88 := p88.gw (n' := b + 105) (h' := h24) (by omega) (fun k k1 k2 => hb1 k (by omega))
  have hB := hB.tr hb1 (by omega)
  refine r_putF (pc' := 79) fp_RX5_34 rfl (dk_at dkX5_init 38 rfl) ⟨by omega, e0⟩ (Nat.le_of_ble_eq_true rfl) (PT_obj _ _) rfl (fun h25 Eh25 => ?_)
  have e0 : h25 b = cO 5 [vR (b + 1), vR (b + 18), vI 0, vR (b + 87), vI 0, vR (b + 88), vR (b + 91), vN, vN] := by rw [Eh25, hp_eq]; rfl
  have e18 : h25 (b + 18) = cR 0 4 (upr (upr (upr (upr (fun _ => none) 0 (some (b + 19))) 1 (some (b + 36))) 2 (some (b + 53))) 3 (some (b + 70))) := by rw [Eh25, hp_ne (by omega)]; exact e18
  have e87 : h25 (b + 87) = cI 60 (fun _ => 0) := by rw [Eh25, hp_ne (by omega)]; exact e87
  have p1 := p1.gw (n' := b + 105) (h' := h25) (by omega) (fun k k1 k2 => by rw [Eh25, hp_ne (by omega)])
  have p19 := p19.gw (n' := b + 105) (h' := h25) (by omega) (fun k k1 k2 => by rw [Eh25, hp_ne (by omega)])
  have p36 := p36.gw (n' := b + 105) (h' := h25) (by omega) (fun k k1 k2 => by rw [Eh25, hp_ne (by omega)])
  have p53 := p53.gw (n' := b + 105) (h' := h25) (by omega) (fun k k1 k2 => by rw [Eh25, hp_ne (by omega)])
  have p70 := p70.gw (n' := b + 105) (h' := h25) (by omega) (fun k k1 k2 => by rw [Eh25, hp_ne (by omega)])
  have p88 := p88.gw (n' := b + 105) (h' := h25) (by omega) (fun k k1 k2 => by rw [Eh25, hp_ne (by omega)])
  have p91 := p91.gw (n' := b + 105) (h' := h25) (by omega) (fun k k1 k2 => by rw [Eh25, hp_ne (by omega)])
  have hB := hB.put Eh25 (by omega)
  refine q_aload_n (pc' := 80) (dk_at dkX5_init 39 rfl) rfl rfl ?_
  refine r_new (pc' := 83) (n' := b + 106) nw_RX5_38 (dk_at dkX5_init 40 rfl) (by decide) (by decide) rfl (by omega) (fun h26 Eh26 => ?_)
  have e105 : h26 (b + 105) = cO 2 [vI 0, vN, vN, vI 0, vI 0, vI 0] := by rw [Eh26, hp_eq]
  have e0 : h26 b = cO 5 [vR (b + 1), vR (b + 18), vI 0, vR (b + 87), vI 0, vR (b + 88), vR (b + 91), vN, vN] := by rw [Eh26, hp_ne (by omega)]; exact e0
  have e18 : h26 (b + 18) = cR 0 4 (upr (upr (upr (upr (fun _ => none) 0 (some (b + 19))) 1 (some (b + 36))) 2 (some (b + 53))) 3 (some (b + 70))) := by rw [Eh26, hp_ne (by omega)]; exact e18
  have e87 : h26 (b + 87) = cI 60 (fun _ => 0) := by rw [Eh26, hp_ne (by omega)]; exact e87
  have p1 := p1.gw (n' := b + 106) (h' := h26) (by omega) (fun k k1 k2 => by rw [Eh26, hp_ne (by omega)])
  have p19 := p19.gw (n' := b + 106) (h' := h26) (by omega) (fun k k1 k2 => by rw [Eh26, hp_ne (by omega)])
  have p36 := p36.gw (n' := b + 106) (h' := h26) (by omega) (fun k k1 k2 => by rw [Eh26, hp_ne (by omega)])
  have p53 := p53.gw (n' := b + 106) (h' := h26) (by omega) (fun k k1 k2 => by rw [Eh26, hp_ne (by omega)])
  have p70 := p70.gw (n' := b + 106) (h' := h26) (by omega) (fun k k1 k2 => by rw [Eh26, hp_ne (by omega)])
  have p88 := p88.gw (n' := b + 106) (h' := h26) (by omega) (fun k k1 k2 => by rw [Eh26, hp_ne (by omega)])
  have p91 := p91.gw (n' := b + 106) (h' := h26) (by omega) (fun k k1 k2 => by rw [Eh26, hp_ne (by omega)])
  have hB := hB.put Eh26 (by omega)
  refine q_dup (pc' := 84) (fun _ => rfl) (dk_at dkX5_init 41 rfl) rfl ?_
  refine q_callIN (pc' := 87) (mc' := 12) (ms' := 70) ci_RX5_40 (dk_at dkX5_init 42 rfl) (k_init2 (d := 1) (b := b + 105) e105 (by omega)) (by omega) (by decide) (by decide) (Nat.le_of_ble_eq_true rfl) (Nat.le_of_ble_eq_true rfl) rfl ?_
  rintro r n1 h27 ⟨hr, hn1, p105, hb1⟩
  subst hr
  subst hn1
  show QW _ _ _ _ _ _ _ _ _ [vR (b + 105), vR b] _ (b + 118) _
  have e0 : h27 b = cO 5 [vR (b + 1), vR (b + 18), vI 0, vR (b + 87), vI 0, vR (b + 88), vR (b + 91), vN, vN] := by rw [hb1 _ (by omega)]; exact e0
  have e18 : h27 (b + 18) = cR 0 4 (upr (upr (upr (upr (fun _ => none) 0 (some (b + 19))) 1 (some (b + 36))) 2 (some (b + 53))) 3 (some (b + 70))) := by rw [hb1 _ (by omega)]; exact e18
  have e87 : h27 (b + 87) = cI 60 (fun _ => 0) := by rw [hb1 _ (by omega)]; exact e87
  have p1 := p1.gw (n' := b + 118) (h' := h27) (by omega) (fun k k1 k2 => hb1 k (by omega))
  have p19 := p19.gw (n' := b + 118) (h' := h27) (by omega) (fun k k1 k2 => hb1 k (by omega))
  have p36 := p36.gw (n' := b + 118) (h' := h27) (by omega) (fun k k1 k2 => hb1 k (by omega))
  have p53 := p53.gw (n' := b + 118) (h' := h27) (by omega) (fun k k1 k2 => hb1 k (by omega))
  have p70 := p70.gw (n' := b + 118) (h' := h27) (by omega) (fun k k1 k2 => hb1 k (by omega))
  have p88 := p88.gw (n' := b + 118) (h' := h27) (by omega) (fun k k1 k2 => hb1 k (by omega))
  have p91 := p91.gw (n' := b + 118) (h' := h27) (by omega) (fun k k1 k2 => hb1 k (by omega))
  have hB := hB.tr hb1 (by omega)
  refine r_putF (pc' := 90) fp_RX5_41 rfl (dk_at dkX5_init 43 rfl) ⟨by omega, e0⟩ (Nat.le_of_ble_eq_true rfl) (PT_obj _ _) rfl (fun h28 Eh28 => ?_)
  have e0 : h28 b = cO 5 [vR (b + 1), vR (b + 18), vI 0, vR (b + 87), vI 0, vR (b + 88), vR (b + 91), vR (b + 105), vN] := by rw [Eh28, hp_eq]; rfl
  have e18 : h28 (b + 18) = cR 0 4 (upr (upr (upr (upr (fun _ => none) 0 (some (b + 19))) 1 (some (b + 36))) 2 (some (b + 53))) 3 (some (b + 70))) := by rw [Eh28, hp_ne (by omega)]; exact e18
  have e87 : h28 (b + 87) = cI 60 (fun _ => 0) := by rw [Eh28, hp_ne (by omega)]; exact e87
  have p1 := p1.gw (n' := b + 118) (h' := h28) (by omega) (fun k k1 k2 => by rw [Eh28, hp_ne (by omega)])
  have p19 := p19.gw (n' := b + 118) (h' := h28) (by omega) (fun k k1 k2 => by rw [Eh28, hp_ne (by omega)])
  have p36 := p36.gw (n' := b + 118) (h' := h28) (by omega) (fun k k1 k2 => by rw [Eh28, hp_ne (by omega)])
  have p53 := p53.gw (n' := b + 118) (h' := h28) (by omega) (fun k k1 k2 => by rw [Eh28, hp_ne (by omega)])
  have p70 := p70.gw (n' := b + 118) (h' := h28) (by omega) (fun k k1 k2 => by rw [Eh28, hp_ne (by omega)])
  have p88 := p88.gw (n' := b + 118) (h' := h28) (by omega) (fun k k1 k2 => by rw [Eh28, hp_ne (by omega)])
  have p91 := p91.gw (n' := b + 118) (h' := h28) (by omega) (fun k k1 k2 => by rw [Eh28, hp_ne (by omega)])
  have p105 := p105.gw (n' := b + 118) (h' := h28) (by omega) (fun k k1 k2 => by rw [Eh28, hp_ne (by omega)])
  have hB := hB.put Eh28 (by omega)
  refine q_aload_n (pc' := 91) (dk_at dkX5_init 44 rfl) rfl rfl ?_
  refine r_new (pc' := 94) (n' := b + 119) nw_RX5_45 (dk_at dkX5_init 45 rfl) (by decide) (by decide) rfl (by omega) (fun h29 Eh29 => ?_)
  have e118 : h29 (b + 118) = cO 1 [vN, vI 0, vI 0, vJ 0, vJ 0, vI 0, vN, vN, vN, vN, vN, vN, vN, vN, vN, vI 0, vN, vN, vN] := by rw [Eh29, hp_eq]
  have e0 : h29 b = cO 5 [vR (b + 1), vR (b + 18), vI 0, vR (b + 87), vI 0, vR (b + 88), vR (b + 91), vR (b + 105), vN] := by rw [Eh29, hp_ne (by omega)]; exact e0
  have e18 : h29 (b + 18) = cR 0 4 (upr (upr (upr (upr (fun _ => none) 0 (some (b + 19))) 1 (some (b + 36))) 2 (some (b + 53))) 3 (some (b + 70))) := by rw [Eh29, hp_ne (by omega)]; exact e18
  have e87 : h29 (b + 87) = cI 60 (fun _ => 0) := by rw [Eh29, hp_ne (by omega)]; exact e87
  have p1 := p1.gw (n' := b + 119) (h' := h29) (by omega) (fun k k1 k2 => by rw [Eh29, hp_ne (by omega)])
  have p19 := p19.gw (n' := b + 119) (h' := h29) (by omega) (fun k k1 k2 => by rw [Eh29, hp_ne (by omega)])
  have p36 := p36.gw (n' := b + 119) (h' := h29) (by omega) (fun k k1 k2 => by rw [Eh29, hp_ne (by omega)])
  have p53 := p53.gw (n' := b + 119) (h' := h29) (by omega) (fun k k1 k2 => by rw [Eh29, hp_ne (by omega)])
  have p70 := p70.gw (n' := b + 119) (h' := h29) (by omega) (fun k k1 k2 => by rw [Eh29, hp_ne (by omega)])
  have p88 := p88.gw (n' := b + 119) (h' := h29) (by omega) (fun k k1 k2 => by rw [Eh29, hp_ne (by omega)])
  have p91 := p91.gw (n' := b + 119) (h' := h29) (by omega) (fun k k1 k2 => by rw [Eh29, hp_ne (by omega)])
  have p105 := p105.gw (n' := b + 119) (h' := h29) (by omega) (fun k k1 k2 => by rw [Eh29, hp_ne (by omega)])
  have hB := hB.put Eh29 (by omega)
  refine q_dup (pc' := 95) (fun _ => rfl) (dk_at dkX5_init 46 rfl) rfl ?_
  refine q_callIN (pc' := 98) (mc' := 30) (ms' := 8321) ci_RX5_47 (dk_at dkX5_init 47 rfl) (k_init1 (d := 2) (b := b + 118) e118 (by omega)) (by omega) (by decide) (by decide) (Nat.le_of_ble_eq_true rfl) (Nat.le_of_ble_eq_true rfl) rfl ?_
  rintro r n1 h30 ⟨hr, hn1, p118, hb1⟩
  subst hr
  subst hn1
  show QW _ _ _ _ _ _ _ _ _ [vR (b + 118), vR b] _ (b + 149) _
  have e0 : h30 b = cO 5 [vR (b + 1), vR (b + 18), vI 0, vR (b + 87), vI 0, vR (b + 88), vR (b + 91), vR (b + 105), vN] := by rw [hb1 _ (by omega)]; exact e0
  have e18 : h30 (b + 18) = cR 0 4 (upr (upr (upr (upr (fun _ => none) 0 (some (b + 19))) 1 (some (b + 36))) 2 (some (b + 53))) 3 (some (b + 70))) := by rw [hb1 _ (by omega)]; exact e18
  have e87 : h30 (b + 87) = cI 60 (fun _ => 0) := by rw [hb1 _ (by omega)]; exact e87
  have p1 := p1.gw (n' := b + 149) (h' := h30) (by omega) (fun k k1 k2 => hb1 k (by omega))
  have p19 := p19.gw (n' := b + 149) (h' := h30) (by omega) (fun k k1 k2 => hb1 k (by omega))
  have p36 := p36.gw (n' := b + 149) (h' := h30) (by omega) (fun k k1 k2 => hb1 k (by omega))
  have p53 := p53.gw (n' := b + 149) (h' := h30) (by omega) (fun k k1 k2 => hb1 k (by omega))
  have p70 := p70.gw (n' := b + 149) (h' := h30) (by omega) (fun k k1 k2 => hb1 k (by omega))
  have p88 := p88.gw (n' := b + 149) (h' := h30) (by omega) (fun k k1 k2 => hb1 k (by omega))
  have p91 := p91.gw (n' := b + 149) (h' := h30) (by omega) (fun k k1 k2 => hb1 k (by omega))
  have p105 := p105.gw (n' := b + 149) (h' := h30) (by omega) (fun k k1 k2 => hb1 k (by omega))
  have hB := hB.tr hb1 (by omega)
  refine r_putF (pc' := 101) fp_RX5_48 rfl (dk_at dkX5_init 48 rfl) ⟨by omega, e0⟩ (Nat.le_of_ble_eq_true rfl) (PT_obj _ _) rfl (fun h31 Eh31 => ?_)
  have e0 : h31 b = cO 5 [vR (b + 1), vR (b + 18), vI 0, vR (b + 87), vI 0, vR (b + 88), vR (b + 91), vR (b + 105), vR (b + 118)] := by rw [Eh31, hp_eq]; rfl
  have e18 : h31 (b + 18) = cR 0 4 (upr (upr (upr (upr (fun _ => none) 0 (some (b + 19))) 1 (some (b + 36))) 2 (some (b + 53))) 3 (some (b + 70))) := by rw [Eh31, hp_ne (by omega)]; exact e18
  have e87 : h31 (b + 87) = cI 60 (fun _ => 0) := by rw [Eh31, hp_ne (by omega)]; exact e87
  have p1 := p1.gw (n' := b + 149) (h' := h31) (by omega) (fun k k1 k2 => by rw [Eh31, hp_ne (by omega)])
  have p19 := p19.gw (n' := b + 149) (h' := h31) (by omega) (fun k k1 k2 => by rw [Eh31, hp_ne (by omega)])
  have p36 := p36.gw (n' := b + 149) (h' := h31) (by omega) (fun k k1 k2 => by rw [Eh31, hp_ne (by omega)])
  have p53 := p53.gw (n' := b + 149) (h' := h31) (by omega) (fun k k1 k2 => by rw [Eh31, hp_ne (by omega)])
  have p70 := p70.gw (n' := b + 149) (h' := h31) (by omega) (fun k k1 k2 => by rw [Eh31, hp_ne (by omega)])
  have p88 := p88.gw (n' := b + 149) (h' := h31) (by omega) (fun k k1 k2 => by rw [Eh31, hp_ne (by omega)])
  have p91 := p91.gw (n' := b + 149) (h' := h31) (by omega) (fun k k1 k2 => by rw [Eh31, hp_ne (by omega)])
  have p105 := p105.gw (n' := b + 149) (h' := h31) (by omega) (fun k k1 k2 => by rw [Eh31, hp_ne (by omega)])
  have p118 := p118.gw (n' := b + 149) (h' := h31) (by omega) (fun k k1 k2 => by rw [Eh31, hp_ne (by omega)])
  have hB := hB.put Eh31 (by omega)
  refine q_vret rfl (dk_at dkX5_init 49 rfl) (by decide) (by decide) ?_
  rw [svF_0] at e18
  refine ⟨rfl, rfl, ⟨⟨⟨by omega, e0⟩, ⟨by omega, e87⟩⟩, p1, ⟨fun i => i, ⟨fun i hi => hi, fun i j _ _ e => e⟩, ⟨by omega, e18⟩, fun i hi => ?_⟩, ⟨0, 0, (fun _ => 0), (fun _ => 0), p88, fun _ => ⟨Int.le_refl _, show (0 : Int) ≤ 7 by decide⟩⟩, p91, ⟨S00, p105⟩, p118⟩, hB⟩
  rcases (show i = 0 ∨ i = 1 ∨ i = 2 ∨ i = 3 by omega) with q | q | q | q
  · subst q; exact p19
  · subst q; exact p36
  · subst q; exact p53
  · subst q; exact p70
