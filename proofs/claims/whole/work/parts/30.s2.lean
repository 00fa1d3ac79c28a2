/-! Search: the second bound; what is remembered -/
/-- the jobs that are left, one behind the other in the order of the row rk: time, the greatest penalty, the weighted sum, the weights -/
def tmT (S : Shp) (rk : Nat → Int) (dn : Nat) (start : Int) : Nat → Int
  | 0 => start
  | i + 1 => if dn / 2 ^ (jb rk i) % 2 = 1 then tmT S rk dn start i else tmT S rk dn start i + S.V 1 (jb rk i)
def glT (S : Shp) (rk : Nat → Int) (dn : Nat) (start sum : Int) : Nat → Int
  | 0 => sum
  | i + 1 => if dn / 2 ^ (jb rk i) % 2 = 1 then glT S rk dn start sum i else max (glT S rk dn start sum i) (pen S (jb rk i) (tmT S rk dn start (i + 1)))
def duL (S : Shp) (j : Nat) : Int := if S.ob = 0 then 0 else S.V 3 j
def slT (S : Shp) (rk : Nat → Int) (dn : Nat) (start : Int) : Nat → Int
  | 0 => 0
  | i + 1 => if dn / 2 ^ (jb rk i) % 2 = 1 then slT S rk dn start i else slT S rk dn start i + S.V 4 (jb rk i) * (tmT S rk dn start (i + 1) - duL S (jb rk i))
def wsT (S : Shp) (rk : Nat → Int) (dn : Nat) : Nat → Int
  | 0 => 0
  | i + 1 => if dn / 2 ^ (jb rk i) % 2 = 1 then wsT S rk dn i else wsT S rk dn i + S.V 4 (jb rk i)
def sil (S : Shp) (rk : Nat → Int) (dn : Nat) (start : Int) : Int := if slT S rk dn start S.cnt ≤ 0 ∨ wsT S rk dn S.cnt ≤ 0 then 0 else if S.ob = 2 then (slT S rk dn start S.cnt * slT S rk dn start S.cnt + wsT S rk dn S.cnt - 1) / wsT S rk dn S.cnt else slT S rk dn start S.cnt
def bil (S : Shp) (rk : Nat → Int) (dn : Nat) (last free sum : Int) : Int := if 4 ≤ S.ob then glT S rk dn (free + ngTo S dn last S.cnt) sum S.cnt else if S.ob = 3 then sum else sum + sil S rk dn (free + ngTo S dn last S.cnt)
theorem tmT_r {S : Shp} (hV : Vok S.V) (rk : Nat → Int) (dn : Nat) {start : Int} : ∀ i, start ≤ tmT S rk dn start i ∧ tmT S rk dn start i ≤ start + 50 * i
  | 0 => by unfold tmT; omega
  | i + 1 => by
    have h1 := tmT_r hV rk dn (start := start) i
    have h2 := hV 1 (jb rk i)
    unfold tmT
    split <;> omega
theorem glT_r {S : Shp} (hV : Vok S.V) (rk : Nat → Int) (dn : Nat) {start sum lo hi : Int} (hs : 0 ≤ start ∧ start ≤ 60000) (hsm : lo ≤ sum ∧ sum ≤ hi) (hh : 100000000000 ≤ hi) : ∀ i, i ≤ 8 → lo ≤ glT S rk dn start sum i ∧ glT S rk dn start sum i ≤ hi
  | 0, _ => by unfold glT; omega
  | i + 1, h => by
    have h1 := glT_r hV rk dn hs hsm hh i (by omega)
    have h3 := tmT_r hV rk dn (start := start) (i + 1)
    have h2 := pen_r hV (jb rk i) (C := tmT S rk dn start (i + 1)) (by omega)
    unfold glT
    split <;> omega
theorem mulb {w t : Int} (hw : 0 ≤ w ∧ w ≤ 9) (ht : -1000 ≤ t ∧ t ≤ 100000) : -9000 ≤ w * t ∧ w * t ≤ 900000 := by
  have h1 : w * -1000 ≤ w * t := Int.mul_le_mul_of_nonneg_left ht.1 hw.1
  have h2 : w * t ≤ w * 100000 := Int.mul_le_mul_of_nonneg_left ht.2 hw.1
  omega
theorem slT_r {S : Shp} (hV : Vok S.V) (rk : Nat → Int) (dn : Nat) {start : Int} (hs : 0 ≤ start ∧ start ≤ 60000) : ∀ i, i ≤ 8 → -9000 * i ≤ slT S rk dn start i ∧ slT S rk dn start i ≤ 900000 * i
  | 0, _ => by unfold slT; omega
  | i + 1, h => by
    have h1 := slT_r hV rk dn hs i (by omega)
    have h3 := tmT_r hV rk dn (start := start) (i + 1)
    have h4 := hV 3 (jb rk i)
    have h5 := hV 4 (jb rk i)
    have h6 : 0 ≤ duL S (jb rk i) ∧ duL S (jb rk i) ≤ 500 := by unfold duL; split <;> omega
    have h2 := mulb (w := S.V 4 (jb rk i)) (t := tmT S rk dn start (i + 1) - duL S (jb rk i)) (by omega) (by omega)
    unfold slT
    split <;> omega
theorem wsT_r {S : Shp} (hV : Vok S.V) (rk : Nat → Int) (dn : Nat) : ∀ i, 0 ≤ wsT S rk dn i ∧ wsT S rk dn i ≤ 9 * i
  | 0 => by unfold wsT; omega
  | i + 1 => by
    have h1 := wsT_r hV rk dn i
    have h5 := hV 4 (jb rk i)
    unfold wsT
    split <;> omega
theorem sil_r {S : Shp} (hV : Vok S.V) (hc : S.cnt ≤ 8) (rk : Nat → Int) (dn : Nat) {start : Int} (hs : 0 ≤ start ∧ start ≤ 60000) : 0 ≤ sil S rk dn start ∧ sil S rk dn start ≤ 100000000000000 := by
  have h1 := slT_r hV rk dn hs S.cnt hc
  have h2 := wsT_r hV rk dn S.cnt
  unfold sil
  split
  · omega
  · rename_i q
    have g1 : 0 < slT S rk dn start S.cnt := by omega
    have g2 : 0 < wsT S rk dn S.cnt := by omega
    have g3 : slT S rk dn start S.cnt ≤ 7200000 := by omega
    split
    · have m1 := Int.mul_le_mul g3 g3 (by omega) (by omega)
      have m0 := Int.mul_pos g1 g1
      have d1 : 0 ≤ (slT S rk dn start S.cnt * slT S rk dn start S.cnt + wsT S rk dn S.cnt - 1) / wsT S rk dn S.cnt := Int.ediv_nonneg (by omega) (by omega)
      have d2 := Int.ediv_le_self (b := wsT S rk dn S.cnt) (a := slT S rk dn start S.cnt * slT S rk dn start S.cnt + wsT S rk dn S.cnt - 1) (by omega)
      omega
    · omega
set_option maxHeartbeats 4000000 in
set_option maxRecDepth 100000 in
theorem l_greatest {d n : Nat} {h : PH} {b : Nat} {S : Shp} {al fi bs fl sc fc : Int} {st fa re wo lg rk ch fo sC sT sX : Nat → Int} {G : Nat → Nat → Int} {dn : Nat} {start sum : Int} (hd : 1 ≤ d) (hk : Sok S) (hV : Vok S.V) (hc8 : S.cnt ≤ 8) (hrk : ∀ j, 0 ≤ rk j ∧ rk j ≤ 7) (hs : dn < 256) (hst : 0 ≤ start ∧ start ≤ 60000) (hsum : -2000000000000 ≤ sum ∧ sum ≤ 2000000000000) (hS : isShp n h (b + 1) S) (hX : isSearch n h b al fi bs fl sc st fa re wo G lg rk ch fo fc sC sT sX) : ∀ (c : Nat) (i : Nat) (z tm : Int) (x9 : Option PV), (i + c = S.cnt) → (z = glT S rk dn start sum i) → (tm = tmT S rk dn start i) → QN mX1_greatestInLine d (FJ n (fun x h' => h' = h ∧ x = glT S rk dn start sum S.cnt)) 9 [some (vR b), some (vI (dn : Int)), some (vI start), some (vJ sum), none, some (vJ z), none, some (vI tm), some (vI (i : Int)), x9] [] n h := by
  intro c
  induction c with
  | zero =>
    intro i z tm x9 hc hz ht
    have hzr := glT_r (S := S) hV rk dn hst hsum (by omega) i (by omega)
    rw [← hz] at hzr
    have htr0 := tmT_r hV rk dn (start := start) i
    rw [← ht] at htr0
    refine q_iload (pc' := 11) (dk_at dkX1_greatestInLine 6 rfl) rfl rfl ?_
    refine q_aload_n (pc' := 12) (dk_at dkX1_greatestInLine 7 rfl) rfl rfl ?_
    refine r_getf (pc' := 15) fl_RX1_12 (dk_at dkX1_greatestInLine 8 rfl) hX.obj rfl rfl ?_
    refine r_getf (pc' := 18) fl_RX1_76 (dk_at dkX1_greatestInLine 9 rfl) hS.obj rfl rfl ?_
    refine q_icmp_ge (tgt := 80) (pc' := 21) (dk_at dkX1_greatestInLine 10 rfl) rfl rfl (by omega) (by omega) (fun c18 => ?_) (fun c18 => ?_)
    · refine q_lload (pc' := 82) (dk_at dkX1_greatestInLine 42 rfl) rfl rfl ?_
      refine r_lret rfl (dk_at dkX1_greatestInLine 43 rfl) ?_
      exact ⟨rfl, by rw [hz, show i = S.cnt by omega]⟩
    · exfalso
      omega
  | succ c ih =>
    intro i z tm x9 hc hz ht
    have hzr := glT_r (S := S) hV rk dn hst hsum (by omega) i (by omega)
    rw [← hz] at hzr
    have htr0 := tmT_r hV rk dn (start := start) i
    rw [← ht] at htr0
    refine q_iload (pc' := 11) (dk_at dkX1_greatestInLine 6 rfl) rfl rfl ?_
    refine q_aload_n (pc' := 12) (dk_at dkX1_greatestInLine 7 rfl) rfl rfl ?_
    refine r_getf (pc' := 15) fl_RX1_12 (dk_at dkX1_greatestInLine 8 rfl) hX.obj rfl rfl ?_
    refine r_getf (pc' := 18) fl_RX1_76 (dk_at dkX1_greatestInLine 9 rfl) hS.obj rfl rfl ?_
    refine q_icmp_ge (tgt := 80) (pc' := 21) (dk_at dkX1_greatestInLine 10 rfl) rfl rfl (by omega) (by omega) (fun c18 => ?_) (fun c18 => ?_)
    · refine q_lload (pc' := 82) (dk_at dkX1_greatestInLine 42 rfl) rfl rfl ?_
      refine r_lret rfl (dk_at dkX1_greatestInLine 43 rfl) ?_
      exact ⟨rfl, by rw [hz, show i = S.cnt by omega]⟩
    · refine q_aload_n (pc' := 22) (dk_at dkX1_greatestInLine 11 rfl) rfl rfl ?_
      refine r_getf (pc' := 25) fl_RX1_39 (dk_at dkX1_greatestInLine 12 rfl) hX.obj rfl rfl ?_
      refine q_iload (pc' := 27) (dk_at dkX1_greatestInLine 13 rfl) rfl rfl ?_
      refine r_iald (pc' := 28) (dk_at dkX1_greatestInLine 14 rfl) hX.ranked i (by omega) (by omega) (by decide) rfl ?_
      have hri := hrk i
      rw [show rk i = ((jb rk i : Nat) : Int) by unfold jb; omega]
      have hj8 : jb rk i < 8 := by unfold jb; omega
      refine q_istore (pc' := 30) (L' := [some (vR b), some (vI (dn : Int)), some (vI start), some (vJ sum), none, some (vJ z), none, some (vI tm), some (vI (i : Int)), some (vI ((jb rk i : Nat) : Int))]) (dk_at dkX1_greatestInLine 15 rfl) (by decide) rfl rfl ?_
      refine q_iload_n (pc' := 31) (dk_at dkX1_greatestInLine 16 rfl) rfl rfl ?_
      refine q_iload (pc' := 33) (dk_at dkX1_greatestInLine 17 rfl) rfl rfl ?_
      refine q_ishr (pc' := 34) (dk_at dkX1_greatestInLine 18 rfl) (by omega) (by omega) rfl ?_
      have bb1 := nt_shr_r dn (jb rk i)
      rw [show ((dn : Int) / 2 ^ (((jb rk i : Nat) : Int)).toNat) = ((dn / 2 ^ (jb rk i) : Nat) : Int) from nt_shr dn (jb rk i)]
      refine q_iconst (pc' := 35) (dk_at dkX1_greatestInLine 19 rfl) rfl ?_
      refine q_iand (pc' := 36) (dk_at dkX1_greatestInLine 20 rfl) (by omega) (by omega) rfl ?_
      rw [show (((((dn / 2 ^ (jb rk i) : Nat) : Int)).toNat &&& (1 : Int).toNat : Nat) : Int) = (((dn / 2 ^ (jb rk i)) % 2 : Nat) : Int) from nt_bit (dn / 2 ^ (jb rk i))]
      refine q_if_ne (tgt := 74) (pc' := 39) (dk_at dkX1_greatestInLine 21 rfl) rfl rfl (by omega) (fun c36 => ?_) (fun c36 => ?_)
      · refine q_iinc (pc' := 77) (L' := [some (vR b), some (vI (dn : Int)), some (vI start), some (vJ sum), none, some (vJ z), none, some (vI tm), some (vI ((i : Int) + 1)), some (vI ((jb rk i : Nat) : Int))]) (dk_at dkX1_greatestInLine 40 rfl) (by decide) rfl rfl rfl ?_
        rw [show ((i : Int) + 1) = ((i + 1 : Nat) : Int) by omega]
        refine q_goto (tgt := 9) (dk_at dkX1_greatestInLine 41 rfl) rfl ?_
        refine ih (i + 1) _ _ _ (by omega) ?_ ?_
        · unfold glT; first | (rw [if_neg (by omega), hz, ← htm]) | (rw [if_pos (by omega), hz])
        · first | exact htm | (unfold tmT; rw [if_pos (by omega), ht])
      · refine q_iload (pc' := 41) (dk_at dkX1_greatestInLine 22 rfl) rfl rfl ?_
        refine q_aload_n (pc' := 42) (dk_at dkX1_greatestInLine 23 rfl) rfl rfl ?_
        refine r_getf (pc' := 45) fl_RX1_12 (dk_at dkX1_greatestInLine 24 rfl) hX.obj rfl rfl ?_
        refine r_getf (pc' := 48) fl_RX1_134 (dk_at dkX1_greatestInLine 25 rfl) hS.obj rfl rfl ?_
        refine q_iconst (pc' := 49) (dk_at dkX1_greatestInLine 26 rfl) rfl ?_
        refine r_aald1 (pc' := 50) (dk_at dkX1_greatestInLine 27 rfl) hS.values 1 (by omega) (by omega) (by decide) rfl ?_
        refine q_iload (pc' := 52) (dk_at dkX1_greatestInLine 28 rfl) rfl rfl ?_
        refine r_iald (pc' := 53) (dk_at dkX1_greatestInLine 29 rfl) (hS.values_at 1 (by omega)) (jb rk i) (by omega) (by omega) (by decide) rfl ?_
        have bb2 := hV 1 (jb rk i)
        refine q_iadd (pc' := 54) (dk_at dkX1_greatestInLine 30 rfl) rfl ?_
        refine q_istore (pc' := 56) (L' := [some (vR b), some (vI (dn : Int)), some (vI start), some (vJ sum), none, some (vJ z), none, some (vI (tm + ((S.V 1) (jb rk i)))), some (vI (i : Int)), some (vI ((jb rk i : Nat) : Int))]) (dk_at dkX1_greatestInLine 31 rfl) (by decide) rfl rfl ?_
        refine q_lload (pc' := 58) (dk_at dkX1_greatestInLine 32 rfl) rfl rfl ?_
        refine q_aload_n (pc' := 59) (dk_at dkX1_greatestInLine 33 rfl) rfl rfl ?_
        refine r_getf (pc' := 62) fl_RX1_12 (dk_at dkX1_greatestInLine 34 rfl) hX.obj rfl rfl ?_
        refine q_iload (pc' := 64) (dk_at dkX1_greatestInLine 35 rfl) rfl rfl ?_
        refine q_iload (pc' := 66) (dk_at dkX1_greatestInLine 36 rfl) rfl rfl ?_
        have htm : (tm + S.V 1 (jb rk i)) = tmT S rk dn start (i + 1) := by show _ = (if _ then _ else _); rw [if_neg (by omega), ht]
        have htr := tmT_r hV rk dn (start := start) (i + 1)
        refine r_cVJ (pc' := 69) (As := [vI ((jb rk i : Nat) : Int), vI (tm + ((S.V 1) (jb rk i)))]) (S := [vJ z]) cv_RX1_183 (dk_at dkX1_greatestInLine 37 rfl) hS.obj rfl (k_Shop_penaltyOf (d := 0) (j := jb rk i) hS hV hk.o (by omega) (by omega)) (by omega) (Nat.zero_le _) (Nat.zero_le _) rfl (Nat.le_of_ble_eq_true rfl) rfl (Nat.le_of_ble_eq_true rfl) rfl (fun xx3 hh4 hphh4 => ?_)
        obtain ⟨qq5, rfl⟩ := hphh4
        rw [qq5]
        have hpn := pen_r hV (jb rk i) (C := tm + S.V 1 (jb rk i)) (by omega)
        refine q_lmax (pc' := 72) jk_RX1_200 (dk_at dkX1_greatestInLine 38 rfl) (by omega) (by omega) (by omega) (Nat.zero_le _) (Nat.zero_le _) (Nat.le_of_ble_eq_true rfl) rfl ?_
        refine q_lstore (pc' := 74) (L' := [some (vR b), some (vI (dn : Int)), some (vI start), some (vJ sum), none, some (vJ (max z (pen S (jb rk i) (tm + S.V 1 (jb rk i))))), none, some (vI (tm + ((S.V 1) (jb rk i)))), some (vI (i : Int)), some (vI ((jb rk i : Nat) : Int))]) (dk_at dkX1_greatestInLine 39 rfl) (by decide) rfl rfl ?_
        refine q_iinc (pc' := 77) (L' := [some (vR b), some (vI (dn : Int)), some (vI start), some (vJ sum), none, some (vJ (max z (pen S (jb rk i) (tm + S.V 1 (jb rk i))))), none, some (vI (tm + ((S.V 1) (jb rk i)))), some (vI ((i : Int) + 1)), some (vI ((jb rk i : Nat) : Int))]) (dk_at dkX1_greatestInLine 40 rfl) (by decide) rfl rfl rfl ?_
        rw [show ((i : Int) + 1) = ((i + 1 : Nat) : Int) by omega]
        refine q_goto (tgt := 9) (dk_at dkX1_greatestInLine 41 rfl) rfl ?_
        refine ih (i + 1) _ _ _ (by omega) ?_ ?_
        · unfold glT; first | (rw [if_neg (by omega), hz, ← htm]) | (rw [if_pos (by omega), hz])
        · first | exact htm | (unfold tmT; rw [if_pos (by omega), ht])

set_option maxHeartbeats 4000000 in
set_option maxRecDepth 100000 in
theorem k_Search_greatestInLine {d n : Nat} {h : PH} {b : Nat} {S : Shp} {al fi bs fl sc fc : Int} {st fa re wo lg rk ch fo sC sT sX : Nat → Int} {G : Nat → Nat → Int} {dn : Nat} {start sum : Int} (hd : 1 ≤ d) (hk : Sok S) (hrk : ∀ j, 0 ≤ rk j ∧ rk j ≤ 7) (hs : dn < 256) (hst : 0 ≤ start ∧ start ≤ 60000) (hsum : -2000000000000 ≤ sum ∧ sum ≤ 2000000000000) (hS : isShp n h (b + 1) S) (hX : isSearch n h b al fi bs fl sc st fa re wo G lg rk ch fo fc sC sT sX) : CtrJ mX1_greatestInLine d [vR b, vI (dn : Int), vI start, vJ sum] n h (fun x h' => h' = h ∧ x = glT S rk dn start sum S.cnt) := by
  refine q_beginJ (L := [some (vR b), some (vI (dn : Int)), some (vI start), some (vJ sum), none, none, none, none, none, none]) rfl ?_
  refine q_lload_n (pc' := 1) (dk_at dkX1_greatestInLine 0 rfl) rfl rfl ?_
  refine q_lstore (pc' := 3) (L' := [some (vR b), some (vI (dn : Int)), some (vI start), some (vJ sum), none, some (vJ sum), none, none, none, none]) (dk_at dkX1_greatestInLine 1 rfl) (by decide) rfl rfl ?_
  refine q_iload_n (pc' := 4) (dk_at dkX1_greatestInLine 2 rfl) rfl rfl ?_
  refine q_istore (pc' := 6) (L' := [some (vR b), some (vI (dn : Int)), some (vI start), some (vJ sum), none, some (vJ sum), none, some (vI start), none, none]) (dk_at dkX1_greatestInLine 3 rfl) (by decide) rfl rfl ?_
  refine q_iconst (pc' := 7) (dk_at dkX1_greatestInLine 4 rfl) rfl ?_
  refine q_istore (pc' := 9) (L' := [some (vR b), some (vI (dn : Int)), some (vI start), some (vJ sum), none, some (vJ sum), none, some (vI start), some (vI 0), none]) (dk_at dkX1_greatestInLine 5 rfl) (by decide) rfl rfl ?_
  exact l_greatest hd hk hk.v hk.c hrk hs hst hsum hS hX S.cnt 0 _ _ none (by omega) rfl rfl

set_option maxHeartbeats 4000000 in
set_option maxRecDepth 100000 in
theorem l_sumIn {d n : Nat} {h : PH} {b : Nat} {S : Shp} {al fi bs fl sc fc : Int} {st fa re wo lg rk ch fo sC sT sX : Nat → Int} {G : Nat → Nat → Int} {dn : Nat} {start : Int} (hk : Sok S) (hV : Vok S.V) (ho : 0 ≤ S.ob ∧ S.ob ≤ 5) (hc8 : S.cnt ≤ 8) (hrk : ∀ j, 0 ≤ rk j ∧ rk j ≤ 7) (hs : dn < 256) (hst : 0 ≤ start ∧ start ≤ 60000) (hS : isShp n h (b + 1) S) (hX : isSearch n h b al fi bs fl sc st fa re wo G lg rk ch fo fc sC sT sX) : ∀ (c : Nat) (i : Nat) (z ws tm : Int) (x9 x10 x11 : Option PV), (i + c = S.cnt) → (z = slT S rk dn start i) → (ws = wsT S rk dn i) → (tm = tmT S rk dn start i) → QN mX1_sumInLine d (FJ n (fun x h' => h' = h ∧ x = sil S rk dn start)) 11 [some (vR b), some (vI (dn : Int)), some (vI start), some (vJ z), none, some (vJ ws), none, some (vI tm), some (vI (i : Int)), x9, x10, x11] [] n h := by
  intro c
  induction c with
  | zero =>
    intro i z ws tm x9 x10 x11 hc hz hw2 ht
    have hzr := slT_r (S := S) hV rk dn hst i (by omega)
    rw [← hz] at hzr
    have hwr := wsT_r (S := S) hV rk dn i
    rw [← hw2] at hwr
    have htr0 := tmT_r hV rk dn (start := start) i
    rw [← ht] at htr0
    refine q_iload (pc' := 13) (dk_at dkX1_sumInLine 8 rfl) rfl rfl ?_
    refine q_aload_n (pc' := 14) (dk_at dkX1_sumInLine 9 rfl) rfl rfl ?_
    refine r_getf (pc' := 17) fl_RX1_12 (dk_at dkX1_sumInLine 10 rfl) hX.obj rfl rfl ?_
    refine r_getf (pc' := 20) fl_RX1_76 (dk_at dkX1_sumInLine 11 rfl) hS.obj rfl rfl ?_
    refine q_icmp_ge (tgt := 126) (pc' := 23) (dk_at dkX1_sumInLine 12 rfl) rfl rfl (by omega) (by omega) (fun c20 => ?_) (fun c20 => ?_)
    · refine q_lload_n (pc' := 127) (dk_at dkX1_sumInLine 72 rfl) rfl rfl ?_
      refine q_lconst0 (pc' := 128) (dk_at dkX1_sumInLine 73 rfl) rfl ?_
      refine q_lcmp (pc' := 129) (dk_at dkX1_sumInLine 74 rfl) (by omega) (by omega) rfl ?_
      refine q_if_le (tgt := 139) (pc' := 132) (dk_at dkX1_sumInLine 75 rfl) rfl rfl (cmpz_IR _ _) (fun c129 => ?_) (fun c129 => ?_)
      · rw [cmpz_le] at c129
        refine q_lconst0 (pc' := 140) (dk_at dkX1_sumInLine 80 rfl) rfl ?_
        refine r_lret rfl (dk_at dkX1_sumInLine 81 rfl) ?_
        first
          | (exfalso; omega; done)
          | (refine ⟨rfl, ?_⟩
             unfold sil
             rw [show i = S.cnt by omega] at hz hw2
             rw [← hz, ← hw2]
             repeat (first | rw [if_pos (by omega)] | rw [if_neg (by omega)]))
      · rw [cmpz_le] at c129
        refine q_lload (pc' := 134) (dk_at dkX1_sumInLine 76 rfl) rfl rfl ?_
        refine q_lconst0 (pc' := 135) (dk_at dkX1_sumInLine 77 rfl) rfl ?_
        refine q_lcmp (pc' := 136) (dk_at dkX1_sumInLine 78 rfl) (by omega) (by omega) rfl ?_
        refine q_if_gt (tgt := 141) (pc' := 139) (dk_at dkX1_sumInLine 79 rfl) rfl rfl (cmpz_IR _ _) (fun c136 => ?_) (fun c136 => ?_)
        · rw [cmpz_gt] at c136
          refine q_aload_n (pc' := 142) (dk_at dkX1_sumInLine 82 rfl) rfl rfl ?_
          refine r_getf (pc' := 145) fl_RX1_12 (dk_at dkX1_sumInLine 83 rfl) hX.obj rfl rfl ?_
          refine r_getf (pc' := 148) fl_RX1_88 (dk_at dkX1_sumInLine 84 rfl) hS.obj rfl rfl ?_
          refine q_iconst (pc' := 149) (dk_at dkX1_sumInLine 85 rfl) rfl ?_
          refine q_icmp_ne (tgt := 166) (pc' := 152) (dk_at dkX1_sumInLine 86 rfl) rfl rfl (by omega) (by omega) (fun c149 => ?_) (fun c149 => ?_)
          · refine q_lload_n (pc' := 167) (dk_at dkX1_sumInLine 97 rfl) rfl rfl ?_
            refine r_lret rfl (dk_at dkX1_sumInLine 98 rfl) ?_
            first
              | (exfalso; omega; done)
              | (refine ⟨rfl, ?_⟩
                 unfold sil
                 rw [show i = S.cnt by omega] at hz hw2
                 rw [← hz, ← hw2]
                 repeat (first | rw [if_pos (by omega)] | rw [if_neg (by omega)]))
          · have hz9 : z ≤ 7200000 := by omega
            have hzz := Int.mul_le_mul hz9 hz9 (by omega) (by omega)
            have hz0 := Int.mul_nonneg (show 0 ≤ z by omega) (show 0 ≤ z by omega)
            refine q_lload_n (pc' := 153) (dk_at dkX1_sumInLine 87 rfl) rfl rfl ?_
            refine q_lload_n (pc' := 154) (dk_at dkX1_sumInLine 88 rfl) rfl rfl ?_
            refine q_lmul (pc' := 155) (dk_at dkX1_sumInLine 89 rfl) rfl ?_
            refine q_lload (pc' := 157) (dk_at dkX1_sumInLine 90 rfl) rfl rfl ?_
            refine q_ladd (pc' := 158) (dk_at dkX1_sumInLine 91 rfl) rfl ?_
            refine q_lconst1 (pc' := 159) (dk_at dkX1_sumInLine 92 rfl) rfl ?_
            refine q_lsub (pc' := 160) (dk_at dkX1_sumInLine 93 rfl) rfl ?_
            refine q_lload (pc' := 162) (dk_at dkX1_sumInLine 94 rfl) rfl rfl ?_
            refine q_ldiv (pc' := 163) (dk_at dkX1_sumInLine 95 rfl) (by omega) (by omega) rfl ?_
            refine q_goto (tgt := 167) (dk_at dkX1_sumInLine 96 rfl) rfl ?_
            refine r_lret rfl (dk_at dkX1_sumInLine 98 rfl) ?_
            first
              | (exfalso; omega; done)
              | (refine ⟨rfl, ?_⟩
                 unfold sil
                 rw [show i = S.cnt by omega] at hz hw2
                 rw [← hz, ← hw2]
                 repeat (first | rw [if_pos (by omega)] | rw [if_neg (by omega)]))
        · rw [cmpz_gt] at c136
          refine q_lconst0 (pc' := 140) (dk_at dkX1_sumInLine 80 rfl) rfl ?_
          refine r_lret rfl (dk_at dkX1_sumInLine 81 rfl) ?_
          first
            | (exfalso; omega; done)
            | (refine ⟨rfl, ?_⟩
               unfold sil
               rw [show i = S.cnt by omega] at hz hw2
               rw [← hz, ← hw2]
               repeat (first | rw [if_pos (by omega)] | rw [if_neg (by omega)]))
    · exfalso
      omega
  | succ c ih =>
    intro i z ws tm x9 x10 x11 hc hz hw2 ht
    have hzr := slT_r (S := S) hV rk dn hst i (by omega)
    rw [← hz] at hzr
    have hwr := wsT_r (S := S) hV rk dn i
    rw [← hw2] at hwr
    have htr0 := tmT_r hV rk dn (start := start) i
    rw [← ht] at htr0
    refine q_iload (pc' := 13) (dk_at dkX1_sumInLine 8 rfl) rfl rfl ?_
    refine q_aload_n (pc' := 14) (dk_at dkX1_sumInLine 9 rfl) rfl rfl ?_
    refine r_getf (pc' := 17) fl_RX1_12 (dk_at dkX1_sumInLine 10 rfl) hX.obj rfl rfl ?_
    refine r_getf (pc' := 20) fl_RX1_76 (dk_at dkX1_sumInLine 11 rfl) hS.obj rfl rfl ?_
    refine q_icmp_ge (tgt := 126) (pc' := 23) (dk_at dkX1_sumInLine 12 rfl) rfl rfl (by omega) (by omega) (fun c20 => ?_) (fun c20 => ?_)
    · refine q_lload_n (pc' := 127) (dk_at dkX1_sumInLine 72 rfl) rfl rfl ?_
      refine q_lconst0 (pc' := 128) (dk_at dkX1_sumInLine 73 rfl) rfl ?_
      refine q_lcmp (pc' := 129) (dk_at dkX1_sumInLine 74 rfl) (by omega) (by omega) rfl ?_
      refine q_if_le (tgt := 139) (pc' := 132) (dk_at dkX1_sumInLine 75 rfl) rfl rfl (cmpz_IR _ _) (fun c129 => ?_) (fun c129 => ?_)
      · rw [cmpz_le] at c129
        refine q_lconst0 (pc' := 140) (dk_at dkX1_sumInLine 80 rfl) rfl ?_
        refine r_lret rfl (dk_at dkX1_sumInLine 81 rfl) ?_
        first
          | (exfalso; omega; done)
          | (refine ⟨rfl, ?_⟩
             unfold sil
             rw [show i = S.cnt by omega] at hz hw2
             rw [← hz, ← hw2]
             repeat (first | rw [if_pos (by omega)] | rw [if_neg (by omega)]))
      · rw [cmpz_le] at c129
        refine q_lload (pc' := 134) (dk_at dkX1_sumInLine 76 rfl) rfl rfl ?_
        refine q_lconst0 (pc' := 135) (dk_at dkX1_sumInLine 77 rfl) rfl ?_
        refine q_lcmp (pc' := 136) (dk_at dkX1_sumInLine 78 rfl) (by omega) (by omega) rfl ?_
        refine q_if_gt (tgt := 141) (pc' := 139) (dk_at dkX1_sumInLine 79 rfl) rfl rfl (cmpz_IR _ _) (fun c136 => ?_) (fun c136 => ?_)
        · rw [cmpz_gt] at c136
          refine q_aload_n (pc' := 142) (dk_at dkX1_sumInLine 82 rfl) rfl rfl ?_
          refine r_getf (pc' := 145) fl_RX1_12 (dk_at dkX1_sumInLine 83 rfl) hX.obj rfl rfl ?_
          refine r_getf (pc' := 148) fl_RX1_88 (dk_at dkX1_sumInLine 84 rfl) hS.obj rfl rfl ?_
          refine q_iconst (pc' := 149) (dk_at dkX1_sumInLine 85 rfl) rfl ?_
          refine q_icmp_ne (tgt := 166) (pc' := 152) (dk_at dkX1_sumInLine 86 rfl) rfl rfl (by omega) (by omega) (fun c149 => ?_) (fun c149 => ?_)
          · refine q_lload_n (pc' := 167) (dk_at dkX1_sumInLine 97 rfl) rfl rfl ?_
            refine r_lret rfl (dk_at dkX1_sumInLine 98 rfl) ?_
            first
              | (exfalso; omega; done)
              | (refine ⟨rfl, ?_⟩
                 unfold sil
                 rw [show i = S.cnt by omega] at hz hw2
                 rw [← hz, ← hw2]
                 repeat (first | rw [if_pos (by omega)] | rw [if_neg (by omega)]))
          · have hz9 : z ≤ 7200000 := by omega
            have hzz := Int.mul_le_mul hz9 hz9 (by omega) (by omega)
            have hz0 := Int.mul_nonneg (show 0 ≤ z by omega) (show 0 ≤ z by omega)
            refine q_lload_n (pc' := 153) (dk_at dkX1_sumInLine 87 rfl) rfl rfl ?_
            refine q_lload_n (pc' := 154) (dk_at dkX1_sumInLine 88 rfl) rfl rfl ?_
            refine q_lmul (pc' := 155) (dk_at dkX1_sumInLine 89 rfl) rfl ?_
            refine q_lload (pc' := 157) (dk_at dkX1_sumInLine 90 rfl) rfl rfl ?_
            refine q_ladd (pc' := 158) (dk_at dkX1_sumInLine 91 rfl) rfl ?_
            refine q_lconst1 (pc' := 159) (dk_at dkX1_sumInLine 92 rfl) rfl ?_
            refine q_lsub (pc' := 160) (dk_at dkX1_sumInLine 93 rfl) rfl ?_
            refine q_lload (pc' := 162) (dk_at dkX1_sumInLine 94 rfl) rfl rfl ?_
            refine q_ldiv (pc' := 163) (dk_at dkX1_sumInLine 95 rfl) (by omega) (by omega) rfl ?_
            refine q_goto (tgt := 167) (dk_at dkX1_sumInLine 96 rfl) rfl ?_
            refine r_lret rfl (dk_at dkX1_sumInLine 98 rfl) ?_
            first
              | (exfalso; omega; done)
              | (refine ⟨rfl, ?_⟩
                 unfold sil
                 rw [show i = S.cnt by omega] at hz hw2
                 rw [← hz, ← hw2]
                 repeat (first | rw [if_pos (by omega)] | rw [if_neg (by omega)]))
        · rw [cmpz_gt] at c136
          refine q_lconst0 (pc' := 140) (dk_at dkX1_sumInLine 80 rfl) rfl ?_
          refine r_lret rfl (dk_at dkX1_sumInLine 81 rfl) ?_
          first
            | (exfalso; omega; done)
            | (refine ⟨rfl, ?_⟩
               unfold sil
               rw [show i = S.cnt by omega] at hz hw2
               rw [← hz, ← hw2]
               repeat (first | rw [if_pos (by omega)] | rw [if_neg (by omega)]))
    · refine q_aload_n (pc' := 24) (dk_at dkX1_sumInLine 13 rfl) rfl rfl ?_
      refine r_getf (pc' := 27) fl_RX1_39 (dk_at dkX1_sumInLine 14 rfl) hX.obj rfl rfl ?_
      refine q_iload (pc' := 29) (dk_at dkX1_sumInLine 15 rfl) rfl rfl ?_
      refine r_iald (pc' := 30) (dk_at dkX1_sumInLine 16 rfl) hX.ranked i (by omega) (by omega) (by decide) rfl ?_
      have hri := hrk i
      rw [show rk i = ((jb rk i : Nat) : Int) by unfold jb; omega]
      have hj8 : jb rk i < 8 := by unfold jb; omega
      refine q_istore (pc' := 32) (L' := [some (vR b), some (vI (dn : Int)), some (vI start), some (vJ z), none, some (vJ ws), none, some (vI tm), some (vI (i : Int)), some (vI ((jb rk i : Nat) : Int)), x10, x11]) (dk_at dkX1_sumInLine 17 rfl) (by decide) rfl rfl ?_
      refine q_iload_n (pc' := 33) (dk_at dkX1_sumInLine 18 rfl) rfl rfl ?_
      refine q_iload (pc' := 35) (dk_at dkX1_sumInLine 19 rfl) rfl rfl ?_
      refine q_ishr (pc' := 36) (dk_at dkX1_sumInLine 20 rfl) (by omega) (by omega) rfl ?_
      have bb1 := nt_shr_r dn (jb rk i)
      rw [show ((dn : Int) / 2 ^ (((jb rk i : Nat) : Int)).toNat) = ((dn / 2 ^ (jb rk i) : Nat) : Int) from nt_shr dn (jb rk i)]
      refine q_iconst (pc' := 37) (dk_at dkX1_sumInLine 21 rfl) rfl ?_
      refine q_iand (pc' := 38) (dk_at dkX1_sumInLine 22 rfl) (by omega) (by omega) rfl ?_
      rw [show (((((dn / 2 ^ (jb rk i) : Nat) : Int)).toNat &&& (1 : Int).toNat : Nat) : Int) = (((dn / 2 ^ (jb rk i)) % 2 : Nat) : Int) from nt_bit (dn / 2 ^ (jb rk i))]
      refine q_if_ne (tgt := 120) (pc' := 41) (dk_at dkX1_sumInLine 23 rfl) rfl rfl (by omega) (fun c38 => ?_) (fun c38 => ?_)
      · refine q_iinc (pc' := 123) (L' := [some (vR b), some (vI (dn : Int)), some (vI start), some (vJ z), none, some (vJ ws), none, some (vI tm), some (vI ((i : Int) + 1)), some (vI ((jb rk i : Nat) : Int)), x10, x11]) (dk_at dkX1_sumInLine 70 rfl) (by decide) rfl rfl rfl ?_
        rw [show ((i : Int) + 1) = ((i + 1 : Nat) : Int) by omega]
        refine q_goto (tgt := 11) (dk_at dkX1_sumInLine 71 rfl) rfl ?_
        refine ih (i + 1) _ _ _ _ _ _ (by omega) ?_ ?_ ?_
        · unfold slT; first | (rw [if_neg (by omega), hz, ← htm, ← hdu]) | (rw [if_pos (by omega), hz])
        · unfold wsT; first | (rw [if_neg (by omega), hw2]) | (rw [if_pos (by omega), hw2])
        · first | exact htm | (unfold tmT; rw [if_pos (by omega), ht])
      · refine q_aload_n (pc' := 42) (dk_at dkX1_sumInLine 24 rfl) rfl rfl ?_
        refine r_getf (pc' := 45) fl_RX1_12 (dk_at dkX1_sumInLine 25 rfl) hX.obj rfl rfl ?_
        refine r_getf (pc' := 48) fl_RX1_134 (dk_at dkX1_sumInLine 26 rfl) hS.obj rfl rfl ?_
        refine q_iconst (pc' := 49) (dk_at dkX1_sumInLine 27 rfl) rfl ?_
        refine r_aald1 (pc' := 50) (dk_at dkX1_sumInLine 28 rfl) hS.values 4 (by omega) (by omega) (by decide) rfl ?_
        refine q_iload (pc' := 52) (dk_at dkX1_sumInLine 29 rfl) rfl rfl ?_
        refine r_iald (pc' := 53) (dk_at dkX1_sumInLine 30 rfl) (hS.values_at 4 (by omega)) (jb rk i) (by omega) (by omega) (by decide) rfl ?_
        have bb2 := hV 4 (jb rk i)
        refine q_istore (pc' := 55) (L' := [some (vR b), some (vI (dn : Int)), some (vI start), some (vJ z), none, some (vJ ws), none, some (vI tm), some (vI (i : Int)), some (vI ((jb rk i : Nat) : Int)), some (vI ((S.V 4) (jb rk i))), x11]) (dk_at dkX1_sumInLine 31 rfl) (by decide) rfl rfl ?_
        refine q_iload (pc' := 57) (dk_at dkX1_sumInLine 32 rfl) rfl rfl ?_
        refine q_aload_n (pc' := 58) (dk_at dkX1_sumInLine 33 rfl) rfl rfl ?_
        refine r_getf (pc' := 61) fl_RX1_12 (dk_at dkX1_sumInLine 34 rfl) hX.obj rfl rfl ?_
        refine r_getf (pc' := 64) fl_RX1_134 (dk_at dkX1_sumInLine 35 rfl) hS.obj rfl rfl ?_
        refine q_iconst (pc' := 65) (dk_at dkX1_sumInLine 36 rfl) rfl ?_
        refine r_aald1 (pc' := 66) (dk_at dkX1_sumInLine 37 rfl) hS.values 1 (by omega) (by omega) (by decide) rfl ?_
        refine q_iload (pc' := 68) (dk_at dkX1_sumInLine 38 rfl) rfl rfl ?_
        refine r_iald (pc' := 69) (dk_at dkX1_sumInLine 39 rfl) (hS.values_at 1 (by omega)) (jb rk i) (by omega) (by omega) (by decide) rfl ?_
        have bb3 := hV 1 (jb rk i)
        refine q_iadd (pc' := 70) (dk_at dkX1_sumInLine 40 rfl) rfl ?_
        refine q_istore (pc' := 72) (L' := [some (vR b), some (vI (dn : Int)), some (vI start), some (vJ z), none, some (vJ ws), none, some (vI (tm + ((S.V 1) (jb rk i)))), some (vI (i : Int)), some (vI ((jb rk i : Nat) : Int)), some (vI ((S.V 4) (jb rk i))), x11]) (dk_at dkX1_sumInLine 41 rfl) (by decide) rfl rfl ?_
        refine q_aload_n (pc' := 73) (dk_at dkX1_sumInLine 42 rfl) rfl rfl ?_
        refine r_getf (pc' := 76) fl_RX1_12 (dk_at dkX1_sumInLine 43 rfl) hX.obj rfl rfl ?_
        refine r_getf (pc' := 79) fl_RX1_88 (dk_at dkX1_sumInLine 44 rfl) hS.obj rfl rfl ?_
        refine q_if_ne (tgt := 86) (pc' := 82) (dk_at dkX1_sumInLine 45 rfl) rfl rfl (by omega) (fun c79 => ?_) (fun c79 => ?_)
        · refine q_aload_n (pc' := 87) (dk_at dkX1_sumInLine 48 rfl) rfl rfl ?_
          refine r_getf (pc' := 90) fl_RX1_12 (dk_at dkX1_sumInLine 49 rfl) hX.obj rfl rfl ?_
          refine r_getf (pc' := 93) fl_RX1_134 (dk_at dkX1_sumInLine 50 rfl) hS.obj rfl rfl ?_
          refine q_iconst (pc' := 94) (dk_at dkX1_sumInLine 51 rfl) rfl ?_
          refine r_aald1 (pc' := 95) (dk_at dkX1_sumInLine 52 rfl) hS.values 3 (by omega) (by omega) (by decide) rfl ?_
          refine q_iload (pc' := 97) (dk_at dkX1_sumInLine 53 rfl) rfl rfl ?_
          refine r_iald (pc' := 98) (dk_at dkX1_sumInLine 54 rfl) (hS.values_at 3 (by omega)) (jb rk i) (by omega) (by omega) (by decide) rfl ?_
          have bb4 := hV 3 (jb rk i)
          have hdu : ((S.V 3) (jb rk i)) = duL S (jb rk i) := by unfold duL; first | rw [if_pos (by omega)] | rw [if_neg (by omega)]
          have htm : (tm + S.V 1 (jb rk i)) = tmT S rk dn start (i + 1) := by show _ = (if _ then _ else _); rw [if_neg (by omega), ht]
          have htr := tmT_r hV rk dn (start := start) (i + 1)
          have hmb := mulb (w := S.V 4 (jb rk i)) (t := (tm + S.V 1 (jb rk i)) - ((S.V 3) (jb rk i))) (by omega) (by have := hV 3 (jb rk i); omega)
          refine q_istore (pc' := 100) (L' := [some (vR b), some (vI (dn : Int)), some (vI start), some (vJ z), none, some (vJ ws), none, some (vI (tm + ((S.V 1) (jb rk i)))), some (vI (i : Int)), some (vI ((jb rk i : Nat) : Int)), some (vI ((S.V 4) (jb rk i))), some (vI ((S.V 3) (jb rk i)))]) (dk_at dkX1_sumInLine 55 rfl) (by decide) rfl rfl ?_
          refine q_lload_n (pc' := 101) (dk_at dkX1_sumInLine 56 rfl) rfl rfl ?_
          refine q_iload (pc' := 103) (dk_at dkX1_sumInLine 57 rfl) rfl rfl ?_
          refine q_iload (pc' := 105) (dk_at dkX1_sumInLine 58 rfl) rfl rfl ?_
          refine q_iload (pc' := 107) (dk_at dkX1_sumInLine 59 rfl) rfl rfl ?_
          refine q_isub (pc' := 108) (dk_at dkX1_sumInLine 60 rfl) rfl ?_
          refine q_imul (pc' := 109) (dk_at dkX1_sumInLine 61 rfl) rfl ?_
          refine q_i2l (pc' := 110) (dk_at dkX1_sumInLine 62 rfl) (by omega) rfl ?_
          refine q_ladd (pc' := 111) (dk_at dkX1_sumInLine 63 rfl) rfl ?_
          refine q_lstore_n (pc' := 112) (L' := [some (vR b), some (vI (dn : Int)), some (vI start), some (vJ (z + (((S.V 4) (jb rk i)) * ((tm + ((S.V 1) (jb rk i))) - ((S.V 3) (jb rk i)))))), none, some (vJ ws), none, some (vI (tm + ((S.V 1) (jb rk i)))), some (vI (i : Int)), some (vI ((jb rk i : Nat) : Int)), some (vI ((S.V 4) (jb rk i))), some (vI ((S.V 3) (jb rk i)))]) (dk_at dkX1_sumInLine 64 rfl) (by decide) rfl rfl ?_
          refine q_lload (pc' := 114) (dk_at dkX1_sumInLine 65 rfl) rfl rfl ?_
          refine q_iload (pc' := 116) (dk_at dkX1_sumInLine 66 rfl) rfl rfl ?_
          refine q_i2l (pc' := 117) (dk_at dkX1_sumInLine 67 rfl) (by omega) rfl ?_
          refine q_ladd (pc' := 118) (dk_at dkX1_sumInLine 68 rfl) rfl ?_
          refine q_lstore (pc' := 120) (L' := [some (vR b), some (vI (dn : Int)), some (vI start), some (vJ (z + (((S.V 4) (jb rk i)) * ((tm + ((S.V 1) (jb rk i))) - ((S.V 3) (jb rk i)))))), none, some (vJ (ws + ((S.V 4) (jb rk i)))), none, some (vI (tm + ((S.V 1) (jb rk i)))), some (vI (i : Int)), some (vI ((jb rk i : Nat) : Int)), some (vI ((S.V 4) (jb rk i))), some (vI ((S.V 3) (jb rk i)))]) (dk_at dkX1_sumInLine 69 rfl) (by decide) rfl rfl ?_
          refine q_iinc (pc' := 123) (L' := [some (vR b), some (vI (dn : Int)), some (vI start), some (vJ (z + (((S.V 4) (jb rk i)) * ((tm + ((S.V 1) (jb rk i))) - ((S.V 3) (jb rk i)))))), none, some (vJ (ws + ((S.V 4) (jb rk i)))), none, some (vI (tm + ((S.V 1) (jb rk i)))), some (vI ((i : Int) + 1)), some (vI ((jb rk i : Nat) : Int)), some (vI ((S.V 4) (jb rk i))), some (vI ((S.V 3) (jb rk i)))]) (dk_at dkX1_sumInLine 70 rfl) (by decide) rfl rfl rfl ?_
          rw [show ((i : Int) + 1) = ((i + 1 : Nat) : Int) by omega]
          refine q_goto (tgt := 11) (dk_at dkX1_sumInLine 71 rfl) rfl ?_
          refine ih (i + 1) _ _ _ _ _ _ (by omega) ?_ ?_ ?_
          · unfold slT; first | (rw [if_neg (by omega), hz, ← htm, ← hdu]) | (rw [if_pos (by omega), hz])
          · unfold wsT; first | (rw [if_neg (by omega), hw2]) | (rw [if_pos (by omega), hw2])
          · first | exact htm | (unfold tmT; rw [if_pos (by omega), ht])
        · refine q_iconst (pc' := 83) (dk_at dkX1_sumInLine 46 rfl) rfl ?_
          refine q_goto (tgt := 98) (dk_at dkX1_sumInLine 47 rfl) rfl ?_
          have hdu : 0 = duL S (jb rk i) := by unfold duL; first | rw [if_pos (by omega)] | rw [if_neg (by omega)]
          have htm : (tm + S.V 1 (jb rk i)) = tmT S rk dn start (i + 1) := by show _ = (if _ then _ else _); rw [if_neg (by omega), ht]
          have htr := tmT_r hV rk dn (start := start) (i + 1)
          have hmb := mulb (w := S.V 4 (jb rk i)) (t := (tm + S.V 1 (jb rk i)) - 0) (by omega) (by have := hV 3 (jb rk i); omega)
          refine q_istore (pc' := 100) (L' := [some (vR b), some (vI (dn : Int)), some (vI start), some (vJ z), none, some (vJ ws), none, some (vI (tm + ((S.V 1) (jb rk i)))), some (vI (i : Int)), some (vI ((jb rk i : Nat) : Int)), some (vI ((S.V 4) (jb rk i))), some (vI 0)]) (dk_at dkX1_sumInLine 55 rfl) (by decide) rfl rfl ?_
          refine q_lload_n (pc' := 101) (dk_at dkX1_sumInLine 56 rfl) rfl rfl ?_
          refine q_iload (pc' := 103) (dk_at dkX1_sumInLine 57 rfl) rfl rfl ?_
          refine q_iload (pc' := 105) (dk_at dkX1_sumInLine 58 rfl) rfl rfl ?_
          refine q_iload (pc' := 107) (dk_at dkX1_sumInLine 59 rfl) rfl rfl ?_
          refine q_isub (pc' := 108) (dk_at dkX1_sumInLine 60 rfl) rfl ?_
          refine q_imul (pc' := 109) (dk_at dkX1_sumInLine 61 rfl) rfl ?_
          refine q_i2l (pc' := 110) (dk_at dkX1_sumInLine 62 rfl) (by omega) rfl ?_
          refine q_ladd (pc' := 111) (dk_at dkX1_sumInLine 63 rfl) rfl ?_
          refine q_lstore_n (pc' := 112) (L' := [some (vR b), some (vI (dn : Int)), some (vI start), some (vJ (z + (((S.V 4) (jb rk i)) * ((tm + ((S.V 1) (jb rk i))) - 0)))), none, some (vJ ws), none, some (vI (tm + ((S.V 1) (jb rk i)))), some (vI (i : Int)), some (vI ((jb rk i : Nat) : Int)), some (vI ((S.V 4) (jb rk i))), some (vI 0)]) (dk_at dkX1_sumInLine 64 rfl) (by decide) rfl rfl ?_
          refine q_lload (pc' := 114) (dk_at dkX1_sumInLine 65 rfl) rfl rfl ?_
          refine q_iload (pc' := 116) (dk_at dkX1_sumInLine 66 rfl) rfl rfl ?_
          refine q_i2l (pc' := 117) (dk_at dkX1_sumInLine 67 rfl) (by omega) rfl ?_
          refine q_ladd (pc' := 118) (dk_at dkX1_sumInLine 68 rfl) rfl ?_
          refine q_lstore (pc' := 120) (L' := [some (vR b), some (vI (dn : Int)), some (vI start), some (vJ (z + (((S.V 4) (jb rk i)) * ((tm + ((S.V 1) (jb rk i))) - 0)))), none, some (vJ (ws + ((S.V 4) (jb rk i)))), none, some (vI (tm + ((S.V 1) (jb rk i)))), some (vI (i : Int)), some (vI ((jb rk i : Nat) : Int)), some (vI ((S.V 4) (jb rk i))), some (vI 0)]) (dk_at dkX1_sumInLine 69 rfl) (by decide) rfl rfl ?_
          refine q_iinc (pc' := 123) (L' := [some (vR b), some (vI (dn : Int)), some (vI start), some (vJ (z + (((S.V 4) (jb rk i)) * ((tm + ((S.V 1) (jb rk i))) - 0)))), none, some (vJ (ws + ((S.V 4) (jb rk i)))), none, some (vI (tm + ((S.V 1) (jb rk i)))), some (vI ((i : Int) + 1)), some (vI ((jb rk i : Nat) : Int)), some (vI ((S.V 4) (jb rk i))), some (vI 0)]) (dk_at dkX1_sumInLine 70 rfl) (by decide) rfl rfl rfl ?_
          rw [show ((i : Int) + 1) = ((i + 1 : Nat) : Int) by omega]
          refine q_goto (tgt := 11) (dk_at dkX1_sumInLine 71 rfl) rfl ?_
          refine ih (i + 1) _ _ _ _ _ _ (by omega) ?_ ?_ ?_
          · unfold slT; first | (rw [if_neg (by omega), hz, ← htm, ← hdu]) | (rw [if_pos (by omega), hz])
          · unfold wsT; first | (rw [if_neg (by omega), hw2]) | (rw [if_pos (by omega), hw2])
          · first | exact htm | (unfold tmT; rw [if_pos (by omega), ht])

set_option maxHeartbeats 4000000 in
set_option maxRecDepth 100000 in
theorem k_Search_sumInLine {d n : Nat} {h : PH} {b : Nat} {S : Shp} {al fi bs fl sc fc : Int} {st fa re wo lg rk ch fo sC sT sX : Nat → Int} {G : Nat → Nat → Int} {dn : Nat} {start : Int} (hk : Sok S) (hrk : ∀ j, 0 ≤ rk j ∧ rk j ≤ 7) (hs : dn < 256) (hst : 0 ≤ start ∧ start ≤ 60000) (hS : isShp n h (b + 1) S) (hX : isSearch n h b al fi bs fl sc st fa re wo G lg rk ch fo fc sC sT sX) : CtrJ mX1_sumInLine d [vR b, vI (dn : Int), vI start] n h (fun x h' => h' = h ∧ x = sil S rk dn start) := by
  refine q_beginJ (L := [some (vR b), some (vI (dn : Int)), some (vI start), none, none, none, none, none, none, none, none, none]) rfl ?_
  refine q_lconst0 (pc' := 1) (dk_at dkX1_sumInLine 0 rfl) rfl ?_
  refine q_lstore_n (pc' := 2) (L' := [some (vR b), some (vI (dn : Int)), some (vI start), some (vJ 0), none, none, none, none, none, none, none, none]) (dk_at dkX1_sumInLine 1 rfl) (by decide) rfl rfl ?_
  refine q_lconst0 (pc' := 3) (dk_at dkX1_sumInLine 2 rfl) rfl ?_
  refine q_lstore (pc' := 5) (L' := [some (vR b), some (vI (dn : Int)), some (vI start), some (vJ 0), none, some (vJ 0), none, none, none, none, none, none]) (dk_at dkX1_sumInLine 3 rfl) (by decide) rfl rfl ?_
  refine q_iload_n (pc' := 6) (dk_at dkX1_sumInLine 4 rfl) rfl rfl ?_
  refine q_istore (pc' := 8) (L' := [some (vR b), some (vI (dn : Int)), some (vI start), some (vJ 0), none, some (vJ 0), none, some (vI start), none, none, none, none]) (dk_at dkX1_sumInLine 5 rfl) (by decide) rfl rfl ?_
  refine q_iconst (pc' := 9) (dk_at dkX1_sumInLine 6 rfl) rfl ?_
  refine q_istore (pc' := 11) (L' := [some (vR b), some (vI (dn : Int)), some (vI start), some (vJ 0), none, some (vJ 0), none, some (vI start), some (vI 0), none, none, none]) (dk_at dkX1_sumInLine 7 rfl) (by decide) rfl rfl ?_
  exact l_sumIn hk hk.v hk.o hk.c hrk hs hst hS hX S.cnt 0 _ _ _ none none none (by omega) rfl rfl rfl

set_option maxHeartbeats 4000000 in
set_option maxRecDepth 100000 in
theorem k_Search_boundInLine {d n : Nat} {h : PH} {b : Nat} {S : Shp} {al fi bs fl sc fc : Int} {st fa re wo lg rk ch fo sC sT sX : Nat → Int} {G : Nat → Nat → Int} {dn : Nat} {last free sum : Int} (hd : 2 ≤ d) (hk : Sok S) (hG : Gok S G lg) (hrk : ∀ j, 0 ≤ rk j ∧ rk j ≤ 7) (hs : dn < 256) (hl : -1 ≤ last ∧ last ≤ 3) (hfr : 0 ≤ free ∧ free ≤ 50000) (hsum : -2000000000000 ≤ sum ∧ sum ≤ 2000000000000) (hS : isShp n h (b + 1) S) (hX : isSearch n h b al fi bs fl sc st fa re wo G lg rk ch fo fc sC sT sX) : CtrJ mX1_boundInLine d [vR b, vI (dn : Int), vI last, vI free, vJ sum] n h (fun x h' => h' = h ∧ x = bil S rk dn last free sum) := by
  have ho := hk.o
  refine q_beginJ (L := [some (vR b), some (vI (dn : Int)), some (vI last), some (vI free), some (vJ sum), none, none]) rfl ?_
  refine q_iload_n (pc' := 1) (dk_at dkX1_boundInLine 0 rfl) rfl rfl ?_
  refine q_aload_n (pc' := 2) (dk_at dkX1_boundInLine 1 rfl) rfl rfl ?_
  refine q_iload_n (pc' := 3) (dk_at dkX1_boundInLine 2 rfl) rfl rfl ?_
  refine q_iload_n (pc' := 4) (dk_at dkX1_boundInLine 3 rfl) rfl rfl ?_
  refine r_cVI (pc' := 7) (As := [vI (dn : Int), vI last]) (S := [vI free]) cv_RX1_191 (dk_at dkX1_boundInLine 4 rfl) hX.obj rfl (k_Search_nextGap (d := 1) (by omega) hk hG hs hl hS hX) (by omega) (Nat.zero_le _) (Nat.zero_le _) rfl (Nat.le_of_ble_eq_true rfl) rfl (Nat.le_of_ble_eq_true rfl) rfl (fun xx1 hh2 hphh2 => ?_)
  obtain ⟨qq3, rfl⟩ := hphh2
  rw [qq3]
  have hng := ngTo_r hk.t dn last S.cnt
  refine q_iadd (pc' := 8) (dk_at dkX1_boundInLine 5 rfl) rfl ?_
  refine q_istore (pc' := 10) (L' := [some (vR b), some (vI (dn : Int)), some (vI last), some (vI free), some (vJ sum), none, some (vI (free + (ngTo S dn last S.cnt)))]) (dk_at dkX1_boundInLine 6 rfl) (by decide) rfl rfl ?_
  refine q_aload_n (pc' := 11) (dk_at dkX1_boundInLine 7 rfl) rfl rfl ?_
  refine r_getf (pc' := 14) fl_RX1_12 (dk_at dkX1_boundInLine 8 rfl) hX.obj rfl rfl ?_
  refine r_getf (pc' := 17) fl_RX1_88 (dk_at dkX1_boundInLine 9 rfl) hS.obj rfl rfl ?_
  refine q_iconst (pc' := 18) (dk_at dkX1_boundInLine 10 rfl) rfl ?_
  refine q_icmp_lt (tgt := 31) (pc' := 21) (dk_at dkX1_boundInLine 11 rfl) rfl rfl (by omega) (by omega) (fun c18 => ?_) (fun c18 => ?_)
  · refine q_aload_n (pc' := 32) (dk_at dkX1_boundInLine 18 rfl) rfl rfl ?_
    refine r_getf (pc' := 35) fl_RX1_12 (dk_at dkX1_boundInLine 19 rfl) hX.obj rfl rfl ?_
    refine r_getf (pc' := 38) fl_RX1_88 (dk_at dkX1_boundInLine 20 rfl) hS.obj rfl rfl ?_
    refine q_iconst (pc' := 39) (dk_at dkX1_boundInLine 21 rfl) rfl ?_
    refine q_icmp_ne (tgt := 47) (pc' := 42) (dk_at dkX1_boundInLine 22 rfl) rfl rfl (by omega) (by omega) (fun c39 => ?_) (fun c39 => ?_)
    · refine q_lload (pc' := 49) (dk_at dkX1_boundInLine 25 rfl) rfl rfl ?_
      refine q_aload_n (pc' := 50) (dk_at dkX1_boundInLine 26 rfl) rfl rfl ?_
      refine q_iload_n (pc' := 51) (dk_at dkX1_boundInLine 27 rfl) rfl rfl ?_
      refine q_iload (pc' := 53) (dk_at dkX1_boundInLine 28 rfl) rfl rfl ?_
      refine r_cVJ (pc' := 56) (As := [vI (dn : Int), vI (free + (ngTo S dn last S.cnt))]) (S := [vJ sum]) cv_RX1_197 (dk_at dkX1_boundInLine 29 rfl) hX.obj rfl (k_Search_sumInLine (d := 0) hk hrk hs (by omega) hS hX) (by omega) (Nat.zero_le _) (Nat.zero_le _) rfl (Nat.le_of_ble_eq_true rfl) rfl (Nat.le_of_ble_eq_true rfl) rfl (fun xx4 hh5 hphh5 => ?_)
      obtain ⟨qq6, rfl⟩ := hphh5
      rw [qq6]
      refine q_ladd (pc' := 57) (dk_at dkX1_boundInLine 30 rfl) rfl ?_
      refine r_lret rfl (dk_at dkX1_boundInLine 31 rfl) ?_
      refine ⟨rfl, ?_⟩
      unfold bil
      repeat (first | rw [if_pos (by omega)] | rw [if_neg (by omega)])
    · refine q_lload (pc' := 44) (dk_at dkX1_boundInLine 23 rfl) rfl rfl ?_
      refine q_goto (tgt := 57) (dk_at dkX1_boundInLine 24 rfl) rfl ?_
      refine r_lret rfl (dk_at dkX1_boundInLine 31 rfl) ?_
      refine ⟨rfl, ?_⟩
      unfold bil
      repeat (first | rw [if_pos (by omega)] | rw [if_neg (by omega)])
  · refine q_aload_n (pc' := 22) (dk_at dkX1_boundInLine 12 rfl) rfl rfl ?_
    refine q_iload_n (pc' := 23) (dk_at dkX1_boundInLine 13 rfl) rfl rfl ?_
    refine q_iload (pc' := 25) (dk_at dkX1_boundInLine 14 rfl) rfl rfl ?_
    refine q_lload (pc' := 27) (dk_at dkX1_boundInLine 15 rfl) rfl rfl ?_
    refine r_cVJ (pc' := 30) (As := [vI (dn : Int), vI (free + (ngTo S dn last S.cnt)), vJ sum]) (S := []) cv_RX1_194 (dk_at dkX1_boundInLine 16 rfl) hX.obj rfl (k_Search_greatestInLine (d := 1) (by omega) hk hrk hs (by omega) hsum hS hX) (by omega) (Nat.zero_le _) (Nat.zero_le _) rfl (Nat.le_of_ble_eq_true rfl) rfl (Nat.le_of_ble_eq_true rfl) rfl (fun xx7 hh8 hphh8 => ?_)
    obtain ⟨qq9, rfl⟩ := hphh8
    rw [qq9]
    refine r_lret rfl (dk_at dkX1_boundInLine 17 rfl) ?_
    refine ⟨rfl, ?_⟩
    unfold bil
    repeat (first | rw [if_pos (by omega)] | rw [if_neg (by omega)])

set_option maxHeartbeats 4000000 in
set_option maxRecDepth 100000 in
theorem l_outdone {d n : Nat} {h : PH} {b : Nat} {al fi bs fl sc fc : Int} {st fa re wo lg rk ch fo sC sT sX : Nat → Int} {G : Nat → Nat → Int} {dn ky k : Nat} {last free sum : Int} (hky : ky < 1024) (hk3 : k ≤ 3) (hsT : ∀ i, 0 ≤ sT i ∧ sT i ≤ 100000) (hsX : ∀ i, -4000000000000 ≤ sX i ∧ sX i ≤ 4000000000000) (hfr : 0 ≤ free ∧ free ≤ 100000) (hsum : -2000000000000 ≤ sum ∧ sum ≤ 2000000000000) (hX : isSearch n h b al fi bs fl sc st fa re wo G lg rk ch fo fc sC sT sX) : ∀ (c : Nat) (i : Nat), (i + c = k) → QN mX1_isOutdone d (FI n (fun x h' => h' = h ∧ (x = 0 ∨ (x = 1 ∧ ∃ i, i < k ∧ sT (3 * ky + i) ≤ free ∧ sX (3 * ky + i) ≤ sum)))) 29 [some (vR b), some (vI (dn : Int)), some (vI last), some (vI free), some (vJ sum), none, some (vI (ky : Int)), some (vI ((3 * ky : Nat) : Int)), some (vI ((3 * ky + k : Nat) : Int)), some (vI ((3 * ky + i : Nat) : Int))] [] n h := by
  intro c
  induction c with
  | zero =>
    intro i hc
    refine q_iload (pc' := 31) (dk_at dkX1_isOutdone 19 rfl) rfl rfl ?_
    refine q_iload (pc' := 33) (dk_at dkX1_isOutdone 20 rfl) rfl rfl ?_
    refine q_icmp_ge (tgt := 68) (pc' := 36) (dk_at dkX1_isOutdone 21 rfl) rfl rfl (by omega) (by omega) (fun c33 => ?_) (fun c33 => ?_)
    · refine q_iconst (pc' := 69) (dk_at dkX1_isOutdone 39 rfl) rfl ?_
      refine r_zret rfl (by omega) (dk_at dkX1_isOutdone 40 rfl) ?_
      exact ⟨rfl, Or.inl rfl⟩
    · exfalso
      omega
  | succ c ih =>
    intro i hc
    refine q_iload (pc' := 31) (dk_at dkX1_isOutdone 19 rfl) rfl rfl ?_
    refine q_iload (pc' := 33) (dk_at dkX1_isOutdone 20 rfl) rfl rfl ?_
    refine q_icmp_ge (tgt := 68) (pc' := 36) (dk_at dkX1_isOutdone 21 rfl) rfl rfl (by omega) (by omega) (fun c33 => ?_) (fun c33 => ?_)
    · refine q_iconst (pc' := 69) (dk_at dkX1_isOutdone 39 rfl) rfl ?_
      refine r_zret rfl (by omega) (dk_at dkX1_isOutdone 40 rfl) ?_
      exact ⟨rfl, Or.inl rfl⟩
    · have hTi := hsT (3 * ky + i)
      have hXi := hsX (3 * ky + i)
      refine q_aload_n (pc' := 37) (dk_at dkX1_isOutdone 22 rfl) rfl rfl ?_
      refine r_getf (pc' := 40) fl_RX1_51 (dk_at dkX1_isOutdone 23 rfl) hX.obj rfl rfl ?_
      refine q_iload (pc' := 42) (dk_at dkX1_isOutdone 24 rfl) rfl rfl ?_
      refine r_iald (pc' := 43) (dk_at dkX1_isOutdone 25 rfl) hX.seenTime (3 * ky + i) (by omega) (by omega) (by decide) rfl ?_
      refine q_iload_n (pc' := 44) (dk_at dkX1_isOutdone 26 rfl) rfl rfl ?_
      refine q_icmp_gt (tgt := 62) (pc' := 47) (dk_at dkX1_isOutdone 27 rfl) rfl rfl (by omega) (by omega) (fun c44 => ?_) (fun c44 => ?_)
      · refine q_iinc (pc' := 65) (L' := [some (vR b), some (vI (dn : Int)), some (vI last), some (vI free), some (vJ sum), none, some (vI (ky : Int)), some (vI ((3 * ky : Nat) : Int)), some (vI ((3 * ky + k : Nat) : Int)), some (vI (((3 * ky + i : Nat) : Int) + 1))]) (dk_at dkX1_isOutdone 37 rfl) (by decide) rfl rfl rfl ?_
        rw [show (((3 * ky + i : Nat) : Int) + 1) = ((((3 * ky + i) + 1) : Nat) : Int) by omega]
        refine q_goto (tgt := 29) (dk_at dkX1_isOutdone 38 rfl) rfl ?_
        rw [show 3 * ky + i + 1 = 3 * ky + (i + 1) by omega]
        exact ih (i + 1) (by omega)
      · refine q_aload_n (pc' := 48) (dk_at dkX1_isOutdone 28 rfl) rfl rfl ?_
        refine r_getf (pc' := 51) fl_RX1_54 (dk_at dkX1_isOutdone 29 rfl) hX.obj rfl rfl ?_
        refine q_iload (pc' := 53) (dk_at dkX1_isOutdone 30 rfl) rfl rfl ?_
        refine r_lald (pc' := 54) (dk_at dkX1_isOutdone 31 rfl) hX.seenCost (3 * ky + i) (by omega) (by omega) (by decide) rfl ?_
        refine q_lload (pc' := 56) (dk_at dkX1_isOutdone 32 rfl) rfl rfl ?_
        refine q_lcmp (pc' := 57) (dk_at dkX1_isOutdone 33 rfl) (by omega) (by omega) rfl ?_
        refine q_if_gt (tgt := 62) (pc' := 60) (dk_at dkX1_isOutdone 34 rfl) rfl rfl (cmpz_IR _ _) (fun c57 => ?_) (fun c57 => ?_)
        · rw [cmpz_gt] at c57
          refine q_iinc (pc' := 65) (L' := [some (vR b), some (vI (dn : Int)), some (vI last), some (vI free), some (vJ sum), none, some (vI (ky : Int)), some (vI ((3 * ky : Nat) : Int)), some (vI ((3 * ky + k : Nat) : Int)), some (vI (((3 * ky + i : Nat) : Int) + 1))]) (dk_at dkX1_isOutdone 37 rfl) (by decide) rfl rfl rfl ?_
          rw [show (((3 * ky + i : Nat) : Int) + 1) = ((((3 * ky + i) + 1) : Nat) : Int) by omega]
          refine q_goto (tgt := 29) (dk_at dkX1_isOutdone 38 rfl) rfl ?_
          rw [show 3 * ky + i + 1 = 3 * ky + (i + 1) by omega]
          exact ih (i + 1) (by omega)
        · rw [cmpz_gt] at c57
          refine q_iconst (pc' := 61) (dk_at dkX1_isOutdone 35 rfl) rfl ?_
          refine r_zret rfl (by omega) (dk_at dkX1_isOutdone 36 rfl) ?_
          exact ⟨rfl, Or.inr ⟨rfl, i, by omega, by omega, by omega⟩⟩

set_option maxHeartbeats 4000000 in
set_option maxRecDepth 100000 in
theorem k_Search_isOutdone {d n : Nat} {h : PH} {b : Nat} {al fi bs fl sc fc : Int} {st fa re wo lg rk ch fo sC sT sX : Nat → Int} {G : Nat → Nat → Int} {dn ky k : Nat} {last free sum : Int} (hdn : dn < 256) (hl : 0 ≤ last ∧ last ≤ 3) (eky : (ky : Int) = 4 * dn + last) (ek : sC ky = (k : Int)) (hk3 : k ≤ 3) (hsT : ∀ i, 0 ≤ sT i ∧ sT i ≤ 100000) (hsX : ∀ i, -4000000000000 ≤ sX i ∧ sX i ≤ 4000000000000) (hfr : 0 ≤ free ∧ free ≤ 100000) (hsum : -2000000000000 ≤ sum ∧ sum ≤ 2000000000000) (hX : isSearch n h b al fi bs fl sc st fa re wo G lg rk ch fo fc sC sT sX) : CtrI mX1_isOutdone d [vR b, vI (dn : Int), vI last, vI free, vJ sum] n h (fun x h' => h' = h ∧ (x = 0 ∨ (x = 1 ∧ ∃ i, i < k ∧ sT (3 * ky + i) ≤ free ∧ sX (3 * ky + i) ≤ sum))) := by
  have hky : ky < 1024 := by omega
  refine q_beginI (L := [some (vR b), some (vI (dn : Int)), some (vI last), some (vI free), some (vJ sum), none, none, none, none, none]) rfl ?_
  refine q_iload_n (pc' := 1) (dk_at dkX1_isOutdone 0 rfl) rfl rfl ?_
  refine q_iconst (pc' := 2) (dk_at dkX1_isOutdone 1 rfl) rfl ?_
  refine q_imul (pc' := 3) (dk_at dkX1_isOutdone 2 rfl) rfl ?_
  refine q_iload_n (pc' := 4) (dk_at dkX1_isOutdone 3 rfl) rfl rfl ?_
  refine q_iadd (pc' := 5) (dk_at dkX1_isOutdone 4 rfl) rfl ?_
  rw [show (((dn : Int) * 4) + last) = (ky : Int) by omega]
  refine q_istore (pc' := 7) (L' := [some (vR b), some (vI (dn : Int)), some (vI last), some (vI free), some (vJ sum), none, some (vI (ky : Int)), none, none, none]) (dk_at dkX1_isOutdone 5 rfl) (by decide) rfl rfl ?_
  refine q_iload (pc' := 9) (dk_at dkX1_isOutdone 6 rfl) rfl rfl ?_
  refine q_iconst (pc' := 10) (dk_at dkX1_isOutdone 7 rfl) rfl ?_
  refine q_imul (pc' := 11) (dk_at dkX1_isOutdone 8 rfl) rfl ?_
  rw [show ((ky : Int) * 3) = ((3 * ky : Nat) : Int) by omega]
  refine q_istore (pc' := 13) (L' := [some (vR b), some (vI (dn : Int)), some (vI last), some (vI free), some (vJ sum), none, some (vI (ky : Int)), some (vI ((3 * ky : Nat) : Int)), none, none]) (dk_at dkX1_isOutdone 9 rfl) (by decide) rfl rfl ?_
  refine q_iload (pc' := 15) (dk_at dkX1_isOutdone 10 rfl) rfl rfl ?_
  refine q_aload_n (pc' := 16) (dk_at dkX1_isOutdone 11 rfl) rfl rfl ?_
  refine r_getf (pc' := 19) fl_RX1_48 (dk_at dkX1_isOutdone 12 rfl) hX.obj rfl rfl ?_
  refine q_iload (pc' := 21) (dk_at dkX1_isOutdone 13 rfl) rfl rfl ?_
  refine r_iald (pc' := 22) (dk_at dkX1_isOutdone 14 rfl) hX.seenCount ky (by omega) (by omega) (by decide) rfl ?_
  refine q_iadd (pc' := 23) (dk_at dkX1_isOutdone 15 rfl) rfl ?_
  rw [show (((3 * ky : Nat) : Int) + (sC ky)) = ((3 * ky + k : Nat) : Int) by omega]
  refine q_istore (pc' := 25) (L' := [some (vR b), some (vI (dn : Int)), some (vI last), some (vI free), some (vJ sum), none, some (vI (ky : Int)), some (vI ((3 * ky : Nat) : Int)), some (vI ((3 * ky + k : Nat) : Int)), none]) (dk_at dkX1_isOutdone 16 rfl) (by decide) rfl rfl ?_
  refine q_iload (pc' := 27) (dk_at dkX1_isOutdone 17 rfl) rfl rfl ?_
  refine q_istore (pc' := 29) (L' := [some (vR b), some (vI (dn : Int)), some (vI last), some (vI free), some (vJ sum), none, some (vI (ky : Int)), some (vI ((3 * ky : Nat) : Int)), some (vI ((3 * ky + k : Nat) : Int)), some (vI ((3 * ky : Nat) : Int))]) (dk_at dkX1_isOutdone 18 rfl) (by decide) rfl rfl ?_
  exact l_outdone hky hk3 hsT hsX hfr hsum hX k 0 (by omega)
