/-! BatchMachineModel: the least cost -/
theorem Cm.frm {S : Shp} {fi F0 : Int} {le fr un : Nat → Int} (hT : TbI S fi F0 le fr un) {k t : Nat} (hk : k < 1024) (h : Cm S fi F0 le k 0) (ht : fr k = (t : Int)) : Cm S fi F0 le k t := by
  rcases h with h | ⟨t', h1, h2, h3, h4⟩
  · exact Or.inl h
  · refine Or.inr ⟨t', ?_, h2, h3, h4⟩
    rcases (hT k hk).2.2 t' h2 with y | ⟨y, -⟩ <;> omega
theorem Cm.end {S : Shp} {fi F0 : Int} {le fr un : Nat → Int} (hT : TbI S fi F0 le fr un) {k t : Nat} (hk : k < 1024) (h : Cm S fi F0 le k t) (ht : un k < (t : Int)) : Xp S fi le k F0 := by
  rcases h with h | ⟨t', h1, h2, h3, h4⟩
  · exact h
  · exfalso
    rcases (hT k hk).2.2 t' h2 with y | ⟨y, -⟩ <;> omega
theorem Xp.cm1 {S : Shp} {fi F0 : Int} {le : Nat → Int} {k : Nat} (hk : 1 ≤ k) (h : Xp S fi le (k - 1) F0) : Cm S fi F0 le k 0 := by
  have := h.cm
  rw [show k - 1 + 1 = k by omega] at this
  exact this
/-- the least one of the last row -/
def Bs (S : Shp) (fi F0 : Int) (le : Nat → Int) (k t : Nat) (b : Int) : Prop := F0 ≤ b ∧ b ≤ 2000000000 ∧ (b ≤ F0 ∨ Cm S fi F0 le k t)
theorem Bs.step {S : Shp} {fi F0 : Int} {le fr un : Nat → Int} (hT : TbI S fi F0 le fr un) {k t : Nat} {b b' : Int} (hk : k < 1024) (ht : t < 1200) (hka : k / 4 = alS S) (h : Bs S fi F0 le k t b) (hb : b' = min (le (1200 * k + t)) b) : Bs S fi F0 le k (t + 1) b' := by
  obtain ⟨h1, h2, h3⟩ := h
  have hr := hT.r hk ht
  have hF : F0 ≤ b' := by
    rcases (hT k hk).2.2 t ht with y | ⟨-, -, -, y⟩
    · omega
    · rw [fn_all hka] at y; omega
  refine ⟨hF, by omega, ?_⟩
  rcases h3 with h | h | ⟨t', g1, g2, g3, g4⟩
  · left; omega
  · exact Or.inr (Or.inl h)
  · by_cases z : t' = t
    · left
      rw [fn_all hka, z] at g4
      omega
    · exact Or.inr (Or.inr ⟨t', by omega, g2, g3, g4⟩)
set_option maxHeartbeats 4000000 in
set_option maxRecDepth 100000 in
theorem l_sr4 {d n : Nat} {h : PH} {m : Nat} {S : Shp} {wo fu : Nat} {f1 F0 : Int} {A sd sq op ss es bo su se tx ba sF sR sT ad : Nat → Int} {sm th l0 bm tl : Int} (hd : 7 ≤ d) (hR : MR A S) (hk : Sok S) (hwo : wo < 2 ^ S.cnt) (hwa : wo ≠ alS S) (hfr : f1 = -1 ∨ (0 ≤ f1 ∧ f1 < S.cnt)) (hSt : SetsM S sF sR sT) (hc8 : S.cnt ≤ 8) (hp8 : 2 ^ S.cnt ≤ 256) (hfu : fu + 1 = 2 ^ S.cnt) (hF0 : F0 = fn S f1 wo (-1) 0 (neuM S)) {le1 fr1 un1 : Nat → Int} {nf1 ne1 nc1 : Int} {h1 : PH} (hT : TbI S f1 F0 le1 fr1 un1) (hM : isModel n h1 m A sd sm th sq op l0 ss es bo su se bm tx tl ba le1 fr1 un1 nf1 ne1 nc1 sF sR sT ad) (hF : Fr h h1 m (m + 19)) {x7 : Option PV} {k : Nat} (hk1 : 4 * fu ≤ k) (hk2 : k < 4 * fu + 4) (hFr : -1000000 ≤ F0) (hex : ∀ (b : Int) (x6 : Option PV), (F0 ≤ b ∧ b ≤ 2000000000 ∧ (b ≤ F0 ∨ Xp S f1 le1 k F0)) → QN mX6_searched d (FI n (fun x h' => x = fn S f1 wo (-1) 0 (neuM S) ∧ ∃ (le1 fr1 un1 : Nat → Int) (nf1 ne1 nc1 : Int), isModel n h' m A sd sm th sq op l0 ss es bo su se bm tx tl ba le1 fr1 un1 nf1 ne1 nc1 sF sR sT ad ∧ LInv le1 fr1 un1 ∧ Fr h h' m (m + 19))) 216 [some (vR m), some (vI (wo : Int)), some (vI f1), some (vI (fu : Int)), some (vI b), some (vI (k : Int)), x6, x7] [] n h1) : ∀ (c : Nat) (t : Nat) (b : Int), (t + c = 1201) → (Bs S f1 F0 le1 k t b) → QN mX6_searched d (FI n (fun x h' => x = fn S f1 wo (-1) 0 (neuM S) ∧ ∃ (le1 fr1 un1 : Nat → Int) (nf1 ne1 nc1 : Int), isModel n h' m A sd sm th sq op l0 ss es bo su se bm tx tl ba le1 fr1 un1 nf1 ne1 nc1 sF sR sT ad ∧ LInv le1 fr1 un1 ∧ Fr h h' m (m + 19))) 158 [some (vR m), some (vI (wo : Int)), some (vI f1), some (vI (fu : Int)), some (vI b), some (vI (k : Int)), some (vI (t : Int)), x7] [] n h1 := by
  intro c
  induction c with
  | zero =>
    intro t b hc hb
    have hun := (hT k (by omega)).2.1
    have hb1 := hb.1
    have hb2 := hb.2.1
    refine q_iload (pc' := 160) (dk_at dkX6_searched 93 rfl) rfl rfl ?_
    refine q_aload_n (pc' := 161) (dk_at dkX6_searched 94 rfl) rfl rfl ?_
    refine r_getf (pc' := 164) fl_RX6_50 (dk_at dkX6_searched 95 rfl) hM.obj rfl rfl ?_
    refine q_iload (pc' := 166) (dk_at dkX6_searched 96 rfl) rfl rfl ?_
    refine r_iald (pc' := 167) (dk_at dkX6_searched 97 rfl) hM.until k (by omega) (by omega) (by decide) rfl ?_
    refine q_icmp_gt (tgt := 216) (pc' := 170) (dk_at dkX6_searched 98 rfl) rfl rfl (by omega) (by omega) (fun c167 => ?_) (fun c167 => ?_)
    · exact hex _ _ ⟨hb.1, hb.2.1, hb.2.2.imp id (fun z => z.end hT (by omega) (by omega))⟩
    · exfalso
      omega
  | succ c ih =>
    intro t b hc hb
    have hun := (hT k (by omega)).2.1
    have hb1 := hb.1
    have hb2 := hb.2.1
    refine q_iload (pc' := 160) (dk_at dkX6_searched 93 rfl) rfl rfl ?_
    refine q_aload_n (pc' := 161) (dk_at dkX6_searched 94 rfl) rfl rfl ?_
    refine r_getf (pc' := 164) fl_RX6_50 (dk_at dkX6_searched 95 rfl) hM.obj rfl rfl ?_
    refine q_iload (pc' := 166) (dk_at dkX6_searched 96 rfl) rfl rfl ?_
    refine r_iald (pc' := 167) (dk_at dkX6_searched 97 rfl) hM.until k (by omega) (by omega) (by decide) rfl ?_
    refine q_icmp_gt (tgt := 216) (pc' := 170) (dk_at dkX6_searched 98 rfl) rfl rfl (by omega) (by omega) (fun c167 => ?_) (fun c167 => ?_)
    · exact hex _ _ ⟨hb.1, hb.2.1, hb.2.2.imp id (fun z => z.end hT (by omega) (by omega))⟩
    · have ht : t < 1200 := by omega
      have hlr := hT.r (k := k) (by omega) ht
      have hF0b : -1000000 ≤ b := by omega
      refine q_join 208 [some (vR m), some (vI (wo : Int)), some (vI f1), some (vI (fu : Int)), some (vI b), some (vI (k : Int)), some (vI (t : Int)), x7] [] (fun jx => jx = min (le1 (1200 * k + t)) b) (fun jx208 e208 => ?_) (fun J208 => ?_)
      · refine q_istore (pc' := 210) (L' := [some (vR m), some (vI (wo : Int)), some (vI f1), some (vI (fu : Int)), some (vI jx208), some (vI (k : Int)), some (vI (t : Int)), x7]) (dk_at dkX6_searched 119 rfl) (by decide) rfl rfl ?_
        refine q_iinc (pc' := 213) (L' := [some (vR m), some (vI (wo : Int)), some (vI f1), some (vI (fu : Int)), some (vI jx208), some (vI (k : Int)), some (vI ((t : Int) + 1)), x7]) (dk_at dkX6_searched_1 0 rfl) (by decide) rfl rfl rfl ?_
        rw [show ((t : Int) + 1) = ((t + 1 : Nat) : Int) by omega]
        refine q_goto (tgt := 158) (dk_at dkX6_searched_1 1 rfl) rfl ?_
        exact ih (t + 1) _ (by omega) (hb.step hT (by omega) ht (by unfold alS; omega) e208)
      refine q_aload_n (pc' := 171) (dk_at dkX6_searched 99 rfl) rfl rfl ?_
      refine r_getf (pc' := 174) fl_RX6_44 (dk_at dkX6_searched 100 rfl) hM.obj rfl rfl ?_
      refine q_sipush (pc' := 177) (dk_at dkX6_searched 101 rfl) (by decide +kernel) rfl ?_
      refine q_iload (pc' := 179) (dk_at dkX6_searched 102 rfl) rfl rfl ?_
      refine q_imul (pc' := 180) (dk_at dkX6_searched 103 rfl) rfl ?_
      refine q_iload (pc' := 182) (dk_at dkX6_searched 104 rfl) rfl rfl ?_
      refine q_iadd (pc' := 183) (dk_at dkX6_searched 105 rfl) rfl ?_
      refine r_iald (pc' := 184) (dk_at dkX6_searched 106 rfl) hM.least (1200 * k + t) (by omega) (by omega) (by decide) rfl ?_
      refine q_iload (pc' := 186) (dk_at dkX6_searched 107 rfl) rfl rfl ?_
      refine q_icmp_ge (tgt := 206) (pc' := 189) (dk_at dkX6_searched 108 rfl) rfl rfl (by omega) (by omega) (fun c186 => ?_) (fun c186 => ?_)
      · refine q_iload (pc' := 208) (dk_at dkX6_searched 118 rfl) rfl rfl ?_
        exact J208 _ (by omega)
      · refine q_aload_n (pc' := 190) (dk_at dkX6_searched 109 rfl) rfl rfl ?_
        refine r_getf (pc' := 193) fl_RX6_44 (dk_at dkX6_searched 110 rfl) hM.obj rfl rfl ?_
        refine q_sipush (pc' := 196) (dk_at dkX6_searched 111 rfl) (by decide +kernel) rfl ?_
        refine q_iload (pc' := 198) (dk_at dkX6_searched 112 rfl) rfl rfl ?_
        refine q_imul (pc' := 199) (dk_at dkX6_searched 113 rfl) rfl ?_
        refine q_iload (pc' := 201) (dk_at dkX6_searched 114 rfl) rfl rfl ?_
        refine q_iadd (pc' := 202) (dk_at dkX6_searched 115 rfl) rfl ?_
        refine r_iald (pc' := 203) (dk_at dkX6_searched 116 rfl) hM.least (1200 * k + t) (by omega) (by omega) (by decide) rfl ?_
        refine q_goto (tgt := 208) (dk_at dkX6_searched 117 rfl) rfl ?_
        exact J208 _ (by omega)

set_option maxHeartbeats 4000000 in
set_option maxRecDepth 100000 in
theorem l_sr3 {d n : Nat} {h : PH} {m : Nat} {S : Shp} {wo fu : Nat} {f1 F0 : Int} {A sd sq op ss es bo su se tx ba sF sR sT ad : Nat → Int} {sm th l0 bm tl : Int} (hd : 7 ≤ d) (hR : MR A S) (hk : Sok S) (hwo : wo < 2 ^ S.cnt) (hwa : wo ≠ alS S) (hfr : f1 = -1 ∨ (0 ≤ f1 ∧ f1 < S.cnt)) (hSt : SetsM S sF sR sT) (hc8 : S.cnt ≤ 8) (hp8 : 2 ^ S.cnt ≤ 256) (hfu : fu + 1 = 2 ^ S.cnt) (hF0 : F0 = fn S f1 wo (-1) 0 (neuM S)) {le1 fr1 un1 : Nat → Int} {nf1 ne1 nc1 : Int} {h1 : PH} (hT : TbI S f1 F0 le1 fr1 un1) (hM : isModel n h1 m A sd sm th sq op l0 ss es bo su se bm tx tl ba le1 fr1 un1 nf1 ne1 nc1 sF sR sT ad) (hF : Fr h h1 m (m + 19)) {x7 : Option PV} (hfu1 : 1 ≤ fu) (hFr : -1000000 ≤ F0) : ∀ (c : Nat) (k : Nat) (b : Int) (x6 : Option PV), (k + c = 4 * fu + 4) → (4 * fu ≤ k) → (F0 ≤ b ∧ b ≤ 2000000000 ∧ (b ≤ F0 ∨ Xp S f1 le1 (k - 1) F0)) → QN mX6_searched d (FI n (fun x h' => x = fn S f1 wo (-1) 0 (neuM S) ∧ ∃ (le1 fr1 un1 : Nat → Int) (nf1 ne1 nc1 : Int), isModel n h' m A sd sm th sq op l0 ss es bo su se bm tx tl ba le1 fr1 un1 nf1 ne1 nc1 sF sR sT ad ∧ LInv le1 fr1 un1 ∧ Fr h h' m (m + 19))) 139 [some (vR m), some (vI (wo : Int)), some (vI f1), some (vI (fu : Int)), some (vI b), some (vI (k : Int)), x6, x7] [] n h1 := by
  intro c
  induction c with
  | zero =>
    intro k b x6 hc hk1 hb
    have hb1 := hb.1
    have hb2 := hb.2.1
    refine q_iload (pc' := 141) (dk_at dkX6_searched 81 rfl) rfl rfl ?_
    refine q_iconst (pc' := 142) (dk_at dkX6_searched 82 rfl) rfl ?_
    refine q_iload_n (pc' := 143) (dk_at dkX6_searched 83 rfl) rfl rfl ?_
    refine q_imul (pc' := 144) (dk_at dkX6_searched 84 rfl) rfl ?_
    refine q_iconst (pc' := 145) (dk_at dkX6_searched 85 rfl) rfl ?_
    refine q_iadd (pc' := 146) (dk_at dkX6_searched 86 rfl) rfl ?_
    refine q_icmp_ge (tgt := 222) (pc' := 149) (dk_at dkX6_searched 87 rfl) rfl rfl (by omega) (by omega) (fun c146 => ?_) (fun c146 => ?_)
    · refine q_iload (pc' := 224) (dk_at dkX6_searched_1 4 rfl) rfl rfl ?_
      refine r_iret rfl (dk_at dkX6_searched_1 5 rfl) ?_
      have ek : k = 4 * 2 ^ S.cnt := by omega
      rcases hb with ⟨b1, b2, b3 | ⟨k1, t1, g1, g2, g3⟩⟩
      · exact ⟨by omega, _, _, _, _, _, _, hM, hT.inv, hF⟩
      · exfalso; omega
    · exfalso
      omega
  | succ c ih =>
    intro k b x6 hc hk1 hb
    have hb1 := hb.1
    have hb2 := hb.2.1
    refine q_iload (pc' := 141) (dk_at dkX6_searched 81 rfl) rfl rfl ?_
    refine q_iconst (pc' := 142) (dk_at dkX6_searched 82 rfl) rfl ?_
    refine q_iload_n (pc' := 143) (dk_at dkX6_searched 83 rfl) rfl rfl ?_
    refine q_imul (pc' := 144) (dk_at dkX6_searched 84 rfl) rfl ?_
    refine q_iconst (pc' := 145) (dk_at dkX6_searched 85 rfl) rfl ?_
    refine q_iadd (pc' := 146) (dk_at dkX6_searched 86 rfl) rfl ?_
    refine q_icmp_ge (tgt := 222) (pc' := 149) (dk_at dkX6_searched 87 rfl) rfl rfl (by omega) (by omega) (fun c146 => ?_) (fun c146 => ?_)
    · refine q_iload (pc' := 224) (dk_at dkX6_searched_1 4 rfl) rfl rfl ?_
      refine r_iret rfl (dk_at dkX6_searched_1 5 rfl) ?_
      have ek : k = 4 * 2 ^ S.cnt := by omega
      rcases hb with ⟨b1, b2, b3 | ⟨k1, t1, g1, g2, g3⟩⟩
      · exact ⟨by omega, _, _, _, _, _, _, hM, hT.inv, hF⟩
      · exfalso; omega
    · refine q_aload_n (pc' := 150) (dk_at dkX6_searched 88 rfl) rfl rfl ?_
      refine r_getf (pc' := 153) fl_RX6_47 (dk_at dkX6_searched 89 rfl) hM.obj rfl rfl ?_
      refine q_iload (pc' := 155) (dk_at dkX6_searched 90 rfl) rfl rfl ?_
      refine r_iald (pc' := 156) (dk_at dkX6_searched 91 rfl) hM.from k (by omega) (by omega) (by decide) rfl ?_
      have hfk := (hT k (by omega)).1
      obtain ⟨t, et⟩ : ∃ z : Nat, fr1 k = (z : Int) := ⟨(fr1 k).toNat, by omega⟩
      rw [et]
      refine q_istore (pc' := 158) (L' := [some (vR m), some (vI (wo : Int)), some (vI f1), some (vI (fu : Int)), some (vI b), some (vI (k : Int)), some (vI (t : Int)), x7]) (dk_at dkX6_searched 92 rfl) (by decide) rfl rfl ?_
      refine l_sr4 (h := h) hd hR hk hwo hwa hfr hSt hc8 hp8 hfu hF0 hT hM hF (k := k) (by omega) (by omega) hFr ?_ (1201 - t) t _ (by omega) ⟨hb.1, hb.2.1, hb.2.2.imp id (fun z => (z.cm1 (by omega)).frm hT (by omega) et)⟩
      intro b x6 hb
      refine q_iinc (pc' := 219) (L' := [some (vR m), some (vI (wo : Int)), some (vI f1), some (vI (fu : Int)), some (vI b), some (vI ((k : Int) + 1)), x6, x7]) (dk_at dkX6_searched_1 2 rfl) (by decide) rfl rfl rfl ?_
      rw [show ((k : Int) + 1) = ((k + 1 : Nat) : Int) by omega]
      refine q_goto (tgt := 139) (dk_at dkX6_searched_1 3 rfl) rfl ?_
      exact ih (k + 1) _ _ (by omega) (by omega) hb

set_option maxHeartbeats 4000000 in
set_option maxRecDepth 100000 in
theorem l_sr2 {d n : Nat} {h : PH} {m : Nat} {S : Shp} {wo fu : Nat} {f1 F0 : Int} {A sd sq op ss es bo su se tx ba sF sR sT ad : Nat → Int} {sm th l0 bm tl : Int} (hd : 7 ≤ d) (hR : MR A S) (hk : Sok S) (hwo : wo < 2 ^ S.cnt) (hwa : wo ≠ alS S) (hfr : f1 = -1 ∨ (0 ≤ f1 ∧ f1 < S.cnt)) (hSt : SetsM S sF sR sT) (hc8 : S.cnt ≤ 8) (hp8 : 2 ^ S.cnt ≤ 256) (hfu : fu + 1 = 2 ^ S.cnt) (hF0 : F0 = fn S f1 wo (-1) 0 (neuM S)) {k : Nat} (hk1 : 4 ≤ k) (hk2 : k < 4 * fu) (hex : ∀ (le1 fr1 un1 : Nat → Int) (nf1 ne1 nc1 : Int) (h1 : PH) (b : Int) (x6 x7 : Option PV), TbI S f1 F0 le1 fr1 un1 → Xp S f1 le1 k F0 → isModel n h1 m A sd sm th sq op l0 ss es bo su se bm tx tl ba le1 fr1 un1 nf1 ne1 nc1 sF sR sT ad → Fr h h1 m (m + 19) → QN mX6_searched d (FI n (fun x h' => x = fn S f1 wo (-1) 0 (neuM S) ∧ ∃ (le1 fr1 un1 : Nat → Int) (nf1 ne1 nc1 : Int), isModel n h' m A sd sm th sq op l0 ss es bo su se bm tx tl ba le1 fr1 un1 nf1 ne1 nc1 sF sR sT ad ∧ LInv le1 fr1 un1 ∧ Fr h h' m (m + 19))) 124 [some (vR m), some (vI (wo : Int)), some (vI f1), some (vI (fu : Int)), some (vI (k : Int)), some (vI b), x6, x7] [] n h1) : ∀ (c : Nat) (t : Nat) (le1 fr1 un1 : Nat → Int) (nf1 ne1 nc1 : Int) (h1 : PH) (b : Int) (x7 : Option PV), (t + c = 1201) → (TbI S f1 F0 le1 fr1 un1) → (Cm S f1 F0 le1 k t) → (Bnd S f1 le1 k t b) → (-1000000 ≤ b ∧ b ≤ 2000000000) → (isModel n h1 m A sd sm th sq op l0 ss es bo su se bm tx tl ba le1 fr1 un1 nf1 ne1 nc1 sF sR sT ad) → (Fr h h1 m (m + 19)) → QN mX6_searched d (FI n (fun x h' => x = fn S f1 wo (-1) 0 (neuM S) ∧ ∃ (le1 fr1 un1 : Nat → Int) (nf1 ne1 nc1 : Int), isModel n h' m A sd sm th sq op l0 ss es bo su se bm tx tl ba le1 fr1 un1 nf1 ne1 nc1 sF sR sT ad ∧ LInv le1 fr1 un1 ∧ Fr h h' m (m + 19))) 62 [some (vR m), some (vI (wo : Int)), some (vI f1), some (vI (fu : Int)), some (vI (k : Int)), some (vI b), some (vI (t : Int)), x7] [] n h1 := by
  intro c
  induction c with
  | zero =>
    intro t le1 fr1 un1 nf1 ne1 nc1 h1 b x7 hc hT hCm hB hbr hM hF
    have hun := (hT k (by omega)).2.1
    refine q_iload (pc' := 64) (dk_at dkX6_searched 40 rfl) rfl rfl ?_
    refine q_aload_n (pc' := 65) (dk_at dkX6_searched 41 rfl) rfl rfl ?_
    refine r_getf (pc' := 68) fl_RX6_50 (dk_at dkX6_searched 42 rfl) hM.obj rfl rfl ?_
    refine q_iload (pc' := 70) (dk_at dkX6_searched 43 rfl) rfl rfl ?_
    refine r_iald (pc' := 71) (dk_at dkX6_searched 44 rfl) hM.until k (by omega) (by omega) (by decide) rfl ?_
    refine q_icmp_gt (tgt := 124) (pc' := 74) (dk_at dkX6_searched 45 rfl) rfl rfl (by omega) (by omega) (fun c71 => ?_) (fun c71 => ?_)
    · exact hex _ _ _ _ _ _ _ _ _ _ hT (hCm.end hT (by omega) (by omega)) hM hF
    · exfalso
      omega
  | succ c ih =>
    intro t le1 fr1 un1 nf1 ne1 nc1 h1 b x7 hc hT hCm hB hbr hM hF
    have hun := (hT k (by omega)).2.1
    refine q_iload (pc' := 64) (dk_at dkX6_searched 40 rfl) rfl rfl ?_
    refine q_aload_n (pc' := 65) (dk_at dkX6_searched 41 rfl) rfl rfl ?_
    refine r_getf (pc' := 68) fl_RX6_50 (dk_at dkX6_searched 42 rfl) hM.obj rfl rfl ?_
    refine q_iload (pc' := 70) (dk_at dkX6_searched 43 rfl) rfl rfl ?_
    refine r_iald (pc' := 71) (dk_at dkX6_searched 44 rfl) hM.until k (by omega) (by omega) (by decide) rfl ?_
    refine q_icmp_gt (tgt := 124) (pc' := 74) (dk_at dkX6_searched 45 rfl) rfl rfl (by omega) (by omega) (fun c71 => ?_) (fun c71 => ?_)
    · exact hex _ _ _ _ _ _ _ _ _ _ hT (hCm.end hT (by omega) (by omega)) hM hF
    · have ht : t < 1200 := by omega
      have hlr := hT.r (k := k) (by omega) ht
      refine q_aload_n (pc' := 75) (dk_at dkX6_searched 46 rfl) rfl rfl ?_
      refine r_getf (pc' := 78) fl_RX6_44 (dk_at dkX6_searched 47 rfl) hM.obj rfl rfl ?_
      refine q_sipush (pc' := 81) (dk_at dkX6_searched 48 rfl) (by decide +kernel) rfl ?_
      refine q_iload (pc' := 83) (dk_at dkX6_searched 49 rfl) rfl rfl ?_
      refine q_imul (pc' := 84) (dk_at dkX6_searched 50 rfl) rfl ?_
      refine q_iload (pc' := 86) (dk_at dkX6_searched 51 rfl) rfl rfl ?_
      refine q_iadd (pc' := 87) (dk_at dkX6_searched 52 rfl) rfl ?_
      refine r_iald (pc' := 88) (dk_at dkX6_searched 53 rfl) hM.least (1200 * k + t) (by omega) (by omega) (by decide) rfl ?_
      refine q_istore (pc' := 90) (L' := [some (vR m), some (vI (wo : Int)), some (vI f1), some (vI (fu : Int)), some (vI (k : Int)), some (vI b), some (vI (t : Int)), some (vI (le1 (1200 * k + t)))]) (dk_at dkX6_searched 54 rfl) (by decide) rfl rfl ?_
      refine q_iload (pc' := 92) (dk_at dkX6_searched 55 rfl) rfl rfl ?_
      refine q_iload (pc' := 94) (dk_at dkX6_searched 56 rfl) rfl rfl ?_
      refine q_icmp_ge (tgt := 118) (pc' := 97) (dk_at dkX6_searched 57 rfl) rfl rfl (by omega) (by omega) (fun c94 => ?_) (fun c94 => ?_)
      · refine q_iinc (pc' := 121) (L' := [some (vR m), some (vI (wo : Int)), some (vI f1), some (vI (fu : Int)), some (vI (k : Int)), some (vI b), some (vI ((t : Int) + 1)), some (vI (le1 (1200 * k + t)))]) (dk_at dkX6_searched 71 rfl) (by decide) rfl rfl rfl ?_
        rw [show ((t : Int) + 1) = ((t + 1 : Nat) : Int) by omega]
        refine q_goto (tgt := 62) (dk_at dkX6_searched 72 rfl) rfl ?_
        have hCB := hCm.skip hk hB (by omega)
        exact ih (t + 1) _ _ _ _ _ _ _ _ _ (by omega) hT hCB.1 hCB.2 (by omega) hM hF
      · refine q_iload (pc' := 99) (dk_at dkX6_searched 58 rfl) rfl rfl ?_
        refine q_istore (pc' := 101) (L' := [some (vR m), some (vI (wo : Int)), some (vI f1), some (vI (fu : Int)), some (vI (k : Int)), some (vI (le1 (1200 * k + t))), some (vI (t : Int)), some (vI (le1 (1200 * k + t)))]) (dk_at dkX6_searched 59 rfl) (by decide) rfl rfl ?_
        refine q_aload_n (pc' := 102) (dk_at dkX6_searched 60 rfl) rfl rfl ?_
        refine q_iload (pc' := 104) (dk_at dkX6_searched 61 rfl) rfl rfl ?_
        refine q_iconst (pc' := 105) (dk_at dkX6_searched 62 rfl) rfl ?_
        refine q_idiv (pc' := 106) (dk_at dkX6_searched 63 rfl) (by omega) (by omega) rfl ?_
        rw [show ((k : Int) / 4) = ((k / 4 : Nat) : Int) by omega]
        refine q_iload (pc' := 108) (dk_at dkX6_searched 64 rfl) rfl rfl ?_
        refine q_iconst (pc' := 109) (dk_at dkX6_searched 65 rfl) rfl ?_
        refine q_irem (pc' := 110) (dk_at dkX6_searched 66 rfl) (by omega) (by omega) rfl ?_
        rw [show ((k : Int) % 4) = ((k % 4 : Nat) : Int) by omega]
        refine q_iload (pc' := 112) (dk_at dkX6_searched 67 rfl) rfl rfl ?_
        refine q_iload (pc' := 114) (dk_at dkX6_searched 68 rfl) rfl rfl ?_
        refine q_iconst (pc' := 115) (dk_at dkX6_searched 69 rfl) rfl ?_
        have hEF : Ent S (k / 4) (t : Int) (le1 (1200 * k + t)) ∧ F0 ≤ fn S f1 (k / 4) ((k % 4 : Nat) : Int) (t : Int) (le1 (1200 * k + t)) := by rcases (hT k (by omega)).2.2 t ht with y | ⟨-, -, y⟩; omega; exact y
        refine r_cVV (pc' := 118) (As := [vI ((k / 4 : Nat) : Int), vI ((k % 4 : Nat) : Int), vI (t : Int), vI (le1 (1200 * k + t)), vI (-1)]) (S := []) cv_RX6_226 (dk_at dkX6_searched 70 rfl) hM.obj rfl (k_M_goesOn (d := 6) (dn := k / 4) (t := t) (fi := f1) (F0 := F0) (fv := ((k % 4 : Nat) : Int)) (cs := le1 (1200 * k + t)) (f1 := -1) (by omega) hR hk (by omega) (by omega) hEF.1 hEF.2 (Or.inl rfl) (Or.inl ⟨by omega, rfl⟩) hSt hT hM) (by omega) (Nat.zero_le _) (Nat.zero_le _) rfl (Nat.le_of_ble_eq_true rfl) rfl (Nat.le_of_ble_eq_true rfl) rfl (fun hh2 hphh2 => ?_)
        obtain ⟨le2, fr2, un2, nf2, ne2, nc2, hM, hT2, hG, hRc, hGf⟩ := hphh2
        have hF := hF.tr hGf (by omega)
        have hCB := Cm.go hk (k := k) (t := t) (by omega) ht hCm hG (Xp.of hk hfr (l := ((k % 4 : Nat) : Int)) (by omega) hEF.1 (by unfold alS; omega) hRc)
        refine q_iinc (pc' := 121) (L' := [some (vR m), some (vI (wo : Int)), some (vI f1), some (vI (fu : Int)), some (vI (k : Int)), some (vI (le1 (1200 * k + t))), some (vI ((t : Int) + 1)), some (vI (le1 (1200 * k + t)))]) (dk_at dkX6_searched 71 rfl) (by decide) rfl rfl rfl ?_
        rw [show ((t : Int) + 1) = ((t + 1 : Nat) : Int) by omega]
        refine q_goto (tgt := 62) (dk_at dkX6_searched 72 rfl) rfl ?_
        exact ih (t + 1) _ _ _ _ _ _ _ _ _ (by omega) hT2 hCB.1 hCB.2 (by omega) hM hF

set_option maxHeartbeats 4000000 in
set_option maxRecDepth 100000 in
theorem l_sr1 {d n : Nat} {h : PH} {m : Nat} {S : Shp} {wo fu : Nat} {f1 F0 : Int} {A sd sq op ss es bo su se tx ba sF sR sT ad : Nat → Int} {sm th l0 bm tl : Int} (hd : 7 ≤ d) (hR : MR A S) (hk : Sok S) (hwo : wo < 2 ^ S.cnt) (hwa : wo ≠ alS S) (hfr : f1 = -1 ∨ (0 ≤ f1 ∧ f1 < S.cnt)) (hSt : SetsM S sF sR sT) (hc8 : S.cnt ≤ 8) (hp8 : 2 ^ S.cnt ≤ 256) (hfu : fu + 1 = 2 ^ S.cnt) (hF0 : F0 = fn S f1 wo (-1) 0 (neuM S)) (hfu1 : 1 ≤ fu) (hFr : -1000000 ≤ F0 ∧ F0 ≤ 288000000) : ∀ (c : Nat) (k : Nat) (le1 fr1 un1 : Nat → Int) (nf1 ne1 nc1 : Int) (h1 : PH) (x5 x6 x7 : Option PV), (k + c = 4 * fu) → (4 ≤ k) → (TbI S f1 F0 le1 fr1 un1) → (Xp S f1 le1 (k - 1) F0) → (isModel n h1 m A sd sm th sq op l0 ss es bo su se bm tx tl ba le1 fr1 un1 nf1 ne1 nc1 sF sR sT ad) → (Fr h h1 m (m + 19)) → QN mX6_searched d (FI n (fun x h' => x = fn S f1 wo (-1) 0 (neuM S) ∧ ∃ (le1 fr1 un1 : Nat → Int) (nf1 ne1 nc1 : Int), isModel n h' m A sd sm th sq op l0 ss es bo su se bm tx tl ba le1 fr1 un1 nf1 ne1 nc1 sF sR sT ad ∧ LInv le1 fr1 un1 ∧ Fr h h' m (m + 19))) 41 [some (vR m), some (vI (wo : Int)), some (vI f1), some (vI (fu : Int)), some (vI (k : Int)), x5, x6, x7] [] n h1 := by
  intro c
  induction c with
  | zero =>
    intro k le1 fr1 un1 nf1 ne1 nc1 h1 x5 x6 x7 hc hk1 hT hX hM hF
    refine q_iload (pc' := 43) (dk_at dkX6_searched 28 rfl) rfl rfl ?_
    refine q_iconst (pc' := 44) (dk_at dkX6_searched 29 rfl) rfl ?_
    refine q_iload_n (pc' := 45) (dk_at dkX6_searched 30 rfl) rfl rfl ?_
    refine q_imul (pc' := 46) (dk_at dkX6_searched 31 rfl) rfl ?_
    refine q_icmp_ge (tgt := 130) (pc' := 49) (dk_at dkX6_searched 32 rfl) rfl rfl (by omega) (by omega) (fun c46 => ?_) (fun c46 => ?_)
    · refine q_ldc (pc' := 132) (z := 2000000000) kc_RX6_65 (by decide +kernel) (dk_at dkX6_searched 75 rfl) rfl ?_
      refine q_istore (pc' := 134) (L' := [some (vR m), some (vI (wo : Int)), some (vI f1), some (vI (fu : Int)), some (vI 2000000000), x5, x6, x7]) (dk_at dkX6_searched 76 rfl) (by decide) rfl rfl ?_
      refine q_iconst (pc' := 135) (dk_at dkX6_searched 77 rfl) rfl ?_
      refine q_iload_n (pc' := 136) (dk_at dkX6_searched 78 rfl) rfl rfl ?_
      refine q_imul (pc' := 137) (dk_at dkX6_searched 79 rfl) rfl ?_
      refine q_istore (pc' := 139) (L' := [some (vR m), some (vI (wo : Int)), some (vI f1), some (vI (fu : Int)), some (vI 2000000000), some (vI (4 * (fu : Int))), x6, x7]) (dk_at dkX6_searched 80 rfl) (by decide) rfl rfl ?_
      have ek : k = 4 * fu := by omega
      rw [show (4 * (fu : Int)) = ((4 * fu : Nat) : Int) by omega]
      rw [ek] at hX
      exact l_sr3 (h := h) hd hR hk hwo hwa hfr hSt hc8 hp8 hfu hF0 hT hM hF (by omega) hFr.1 4 (4 * fu) _ _ (by omega) (by omega) ⟨by omega, by omega, Or.inr hX⟩
    · exfalso
      omega
  | succ c ih =>
    intro k le1 fr1 un1 nf1 ne1 nc1 h1 x5 x6 x7 hc hk1 hT hX hM hF
    refine q_iload (pc' := 43) (dk_at dkX6_searched 28 rfl) rfl rfl ?_
    refine q_iconst (pc' := 44) (dk_at dkX6_searched 29 rfl) rfl ?_
    refine q_iload_n (pc' := 45) (dk_at dkX6_searched 30 rfl) rfl rfl ?_
    refine q_imul (pc' := 46) (dk_at dkX6_searched 31 rfl) rfl ?_
    refine q_icmp_ge (tgt := 130) (pc' := 49) (dk_at dkX6_searched 32 rfl) rfl rfl (by omega) (by omega) (fun c46 => ?_) (fun c46 => ?_)
    · refine q_ldc (pc' := 132) (z := 2000000000) kc_RX6_65 (by decide +kernel) (dk_at dkX6_searched 75 rfl) rfl ?_
      refine q_istore (pc' := 134) (L' := [some (vR m), some (vI (wo : Int)), some (vI f1), some (vI (fu : Int)), some (vI 2000000000), x5, x6, x7]) (dk_at dkX6_searched 76 rfl) (by decide) rfl rfl ?_
      refine q_iconst (pc' := 135) (dk_at dkX6_searched 77 rfl) rfl ?_
      refine q_iload_n (pc' := 136) (dk_at dkX6_searched 78 rfl) rfl rfl ?_
      refine q_imul (pc' := 137) (dk_at dkX6_searched 79 rfl) rfl ?_
      refine q_istore (pc' := 139) (L' := [some (vR m), some (vI (wo : Int)), some (vI f1), some (vI (fu : Int)), some (vI 2000000000), some (vI (4 * (fu : Int))), x6, x7]) (dk_at dkX6_searched 80 rfl) (by decide) rfl rfl ?_
      have ek : k = 4 * fu := by omega
      rw [show (4 * (fu : Int)) = ((4 * fu : Nat) : Int) by omega]
      rw [ek] at hX
      exact l_sr3 (h := h) hd hR hk hwo hwa hfr hSt hc8 hp8 hfu hF0 hT hM hF (by omega) hFr.1 4 (4 * fu) _ _ (by omega) (by omega) ⟨by omega, by omega, Or.inr hX⟩
    · refine q_ldc (pc' := 51) (z := 2000000000) kc_RX6_65 (by decide +kernel) (dk_at dkX6_searched 33 rfl) rfl ?_
      refine q_istore (pc' := 53) (L' := [some (vR m), some (vI (wo : Int)), some (vI f1), some (vI (fu : Int)), some (vI (k : Int)), some (vI 2000000000), x6, x7]) (dk_at dkX6_searched 34 rfl) (by decide) rfl rfl ?_
      refine q_aload_n (pc' := 54) (dk_at dkX6_searched 35 rfl) rfl rfl ?_
      refine r_getf (pc' := 57) fl_RX6_47 (dk_at dkX6_searched 36 rfl) hM.obj rfl rfl ?_
      refine q_iload (pc' := 59) (dk_at dkX6_searched 37 rfl) rfl rfl ?_
      refine r_iald (pc' := 60) (dk_at dkX6_searched 38 rfl) hM.from k (by omega) (by omega) (by decide) rfl ?_
      have hfk := (hT k (by omega)).1
      obtain ⟨t, et⟩ : ∃ z : Nat, fr1 k = (z : Int) := ⟨(fr1 k).toNat, by omega⟩
      rw [et]
      refine q_istore (pc' := 62) (L' := [some (vR m), some (vI (wo : Int)), some (vI f1), some (vI (fu : Int)), some (vI (k : Int)), some (vI 2000000000), some (vI (t : Int)), x7]) (dk_at dkX6_searched 39 rfl) (by decide) rfl rfl ?_
      refine l_sr2 (h := h) hd hR hk hwo hwa hfr hSt hc8 hp8 hfu hF0 (k := k) (by omega) (by omega) ?_ (1201 - t) t _ _ _ _ _ _ _ _ _ (by omega) hT ((hX.cm1 (by omega)).frm hT (by omega) et) (Or.inl rfl) (by omega) hM hF
      intro le1 fr1 un1 nf1 ne1 nc1 h1 b x6 x7 hT hX hM hF
      refine q_iinc (pc' := 127) (L' := [some (vR m), some (vI (wo : Int)), some (vI f1), some (vI (fu : Int)), some (vI ((k : Int) + 1)), some (vI b), x6, x7]) (dk_at dkX6_searched 73 rfl) (by decide) rfl rfl rfl ?_
      rw [show ((k : Int) + 1) = ((k + 1 : Nat) : Int) by omega]
      refine q_goto (tgt := 41) (dk_at dkX6_searched 74 rfl) rfl ?_
      exact ih (k + 1) _ _ _ _ _ _ _ _ _ _ (by omega) (by omega) hT hX hM hF

set_option maxHeartbeats 4000000 in
set_option maxRecDepth 100000 in
theorem k_M_searched {d n : Nat} {h : PH} {m : Nat} {A sd sq op ss es bo su se tx ba le fr un sF sR sT ad : Nat → Int} {sm th l0 bm tl nf ne nc : Int} {S : Shp} {wo : Nat} {f1 : Int} (hd : 7 ≤ d) (hR : MR A S) (hk : Sok S) (hwo : wo < 2 ^ S.cnt) (hfr : f1 = -1 ∨ (0 ≤ f1 ∧ f1 < S.cnt)) (hfi : (wo ≠ 0 ∧ f1 = -1) ∨ (wo = 0 ∧ f1 = f1)) (hL : LInv le fr un) (hM : isModel n h m A sd sm th sq op l0 ss es bo su se bm tx tl ba le fr un nf ne nc sF sR sT ad) : CtrI mX6_searched d [vR m, vI (wo : Int), vI f1] n h (fun x h' => x = (if wo = alS S then 0 else fn S f1 wo (-1) 0 (neu S)) ∧ ∃ (le1 fr1 un1 sF1 sR1 sT1 : Nat → Int) (nf1 ne1 nc1 : Int), isModel n h' m A sd sm th sq op l0 ss es bo su se bm tx tl ba le1 fr1 un1 nf1 ne1 nc1 sF1 sR1 sT1 ad ∧ LInv le1 fr1 un1 ∧ Fr h h' m (m + 19)) := by
  have hF : Fr h h m (m + 19) := Fr.rf
  have hc8 := hk.c
  have hp8 := nt_pow_r hk.c
  obtain ⟨fu, hfu⟩ : ∃ z, z + 1 = 2 ^ S.cnt := ⟨2 ^ S.cnt - 1, by omega⟩
  refine q_beginI (L := [some (vR m), some (vI (wo : Int)), some (vI f1), none, none, none, none, none]) rfl ?_
  refine q_iconst (pc' := 1) (dk_at dkX6_searched 0 rfl) rfl ?_
  refine q_aload_n (pc' := 2) (dk_at dkX6_searched 1 rfl) rfl rfl ?_
  refine r_getf (pc' := 5) fl_RX6_7 (dk_at dkX6_searched 2 rfl) hM.obj rfl rfl ?_
  refine q_iconst (pc' := 6) (dk_at dkX6_searched 3 rfl) rfl ?_
  refine r_iald (pc' := 7) (dk_at dkX6_searched 4 rfl) hM.all 0 (by omega) (by omega) (by decide) rfl ?_
  rw [hR.c]
  refine q_ishl (pc' := 8) (dk_at dkX6_searched 5 rfl) (by omega) (by omega) rfl ?_
  have bb1 := nt_pow_r (j := S.cnt) (by omega)
  rw [show ((1 : Int) * 2 ^ ((S.cnt : Int)).toNat) = ((2 ^ S.cnt : Nat) : Int) from nt_shl1 S.cnt]
  refine q_iconst (pc' := 9) (dk_at dkX6_searched 6 rfl) rfl ?_
  refine q_isub (pc' := 10) (dk_at dkX6_searched 7 rfl) rfl ?_
  rw [show (((2 ^ S.cnt : Nat) : Int) - 1) = (fu : Int) by omega]
  refine q_istore_n (pc' := 11) (L' := [some (vR m), some (vI (wo : Int)), some (vI f1), some (vI (fu : Int)), none, none, none, none]) (dk_at dkX6_searched 8 rfl) (by decide) rfl rfl ?_
  refine q_iload_n (pc' := 12) (dk_at dkX6_searched 9 rfl) rfl rfl ?_
  refine q_iload_n (pc' := 13) (dk_at dkX6_searched 10 rfl) rfl rfl ?_
  refine q_icmp_ne (tgt := 18) (pc' := 16) (dk_at dkX6_searched 11 rfl) rfl rfl (by omega) (by omega) (fun c13 => ?_) (fun c13 => ?_)
  · have hwa : wo ≠ alS S := by unfold alS; omega
    refine q_aload_n (pc' := 19) (dk_at dkX6_searched 14 rfl) rfl rfl ?_
    refine r_cVV (pc' := 22) (As := []) (S := []) cv_RX6_220 (dk_at dkX6_searched 15 rfl) hM.obj rfl (k_M_clears (d := 6) hL hM) (by omega) (Nat.zero_le _) (Nat.zero_le _) rfl (Nat.le_of_ble_eq_true rfl) rfl (Nat.le_of_ble_eq_true rfl) rfl (fun hh3 hphh3 => ?_)
    obtain ⟨le1, fr1, un1, hM, hc1, hc2, hGf⟩ := hphh3
    have hF := hF.tr hGf (by omega)
    refine q_aload_n (pc' := 23) (dk_at dkX6_searched 16 rfl) rfl rfl ?_
    refine r_cVV (pc' := 26) (As := []) (S := []) cv_RX6_223 (dk_at dkX6_searched 17 rfl) hM.obj rfl (k_M_laysSets (d := 6) (by omega) hR hk hM) (by omega) (Nat.zero_le _) (Nat.zero_le _) rfl (Nat.le_of_ble_eq_true rfl) rfl (Nat.le_of_ble_eq_true rfl) rfl (fun hh5 hphh5 => ?_)
    obtain ⟨sF1, sR1, sT1, hM, hSt, hGf⟩ := hphh5
    have hF := hF.tr hGf (by omega)
    refine q_aload_n (pc' := 27) (dk_at dkX6_searched 18 rfl) rfl rfl ?_
    refine q_iload_n (pc' := 28) (dk_at dkX6_searched 19 rfl) rfl rfl ?_
    refine q_iconst (pc' := 29) (dk_at dkX6_searched 20 rfl) rfl ?_
    refine q_iconst (pc' := 30) (dk_at dkX6_searched 21 rfl) rfl ?_
    have hng := neuM_r S
    have hfr2 : -1 ≤ f1 ∧ f1 ≤ 8 := by have := hk.c; omega
    refine q_aload_n (pc' := 31) (dk_at dkX6_searched 22 rfl) rfl rfl ?_
    refine r_cVI (pc' := 34) (As := []) (S := [vI 0, vI (-1), vI (wo : Int), vR m]) cv_RX6_122 (dk_at dkX6_searched 23 rfl) hM.obj rfl (k_M_costOfNothing (d := 6) (by omega) hR hk hM) (by omega) (Nat.zero_le _) (Nat.zero_le _) rfl (Nat.le_of_ble_eq_true rfl) rfl (Nat.le_of_ble_eq_true rfl) rfl (fun xx6 hh7 hphh7 => ?_)
    obtain ⟨qq8, rfl⟩ := hphh7
    rw [qq8]
    refine q_iload_n (pc' := 35) (dk_at dkX6_searched 24 rfl) rfl rfl ?_
    refine r_cVV (pc' := 38) (As := [vI (wo : Int), vI (-1), vI 0, vI (neuM S), vI f1]) (S := []) cv_RX6_226 (dk_at dkX6_searched 25 rfl) hM.obj rfl (k_M_goesOn (d := 6) (dn := wo) (t := 0) (fi := f1) (F0 := fn S f1 wo (-1) 0 (neuM S)) (fv := -1) (cs := neuM S) (f1 := f1) (by omega) hR hk hwo (by omega) (Ent.start hk wo) (Int.le_refl _) hfr hfi hSt (TbI.clear hc1 hc2) hM) (by omega) (Nat.zero_le _) (Nat.zero_le _) rfl (Nat.le_of_ble_eq_true rfl) rfl (Nat.le_of_ble_eq_true rfl) rfl (fun hh10 hphh10 => ?_)
    obtain ⟨le2, fr2, un2, nf2, ne2, nc2, hM, hT2, hG, hRc, hGf⟩ := hphh10
    have hF := hF.tr hGf (by omega)
    refine q_iconst (pc' := 39) (dk_at dkX6_searched 26 rfl) rfl ?_
    refine q_istore (pc' := 41) (L' := [some (vR m), some (vI (wo : Int)), some (vI f1), some (vI (fu : Int)), some (vI 4), none, none, none]) (dk_at dkX6_searched 27 rfl) (by decide) rfl rfl ?_
    have hX := (Xp.of hk hfr (l := -1) hwo (Ent.start hk wo) hwa hRc).back (j := 3) (by omega)
    have hFl := fn_le hk hfr (l := -1) hwo (Ent.start hk wo)
    have hFg := fin_sum hk (fi := f1) 8 wo (-1) 0 (neuM S) (Int.le_refl _)
    have hng := neuM_r S
    rw [INF_v] at hFg
    have hFg : min (neuM S) 1000000000000000 ≤ fn S f1 wo (-1) 0 (neuM S) := hFg
    have hfu1 : 1 ≤ fu := by unfold alS at hwa; omega
    refine QNI_mono (l_sr1 (h := h) (wo := wo) (f1 := f1) hd hR hk hwo hwa hfr hSt hk.c (nt_pow_r hk.c).2 hfu rfl hfu1 (by omega) (4 * fu - 4) 4 _ _ _ _ _ _ _ none none none (by omega) (by omega) hT2 hX hM hF) ?_
    rintro x h2 ⟨ex, le1, fr1, un1, nf1, ne1, nc1, hM, hL, hF⟩
    refine ⟨?_, _, _, _, _, _, _, _, _, _, hM, hL, hF⟩
    rw [if_neg hwa, ex]
    exact fn_neu hk hwo hwa (by omega)
  · refine q_iconst (pc' := 17) (dk_at dkX6_searched 12 rfl) rfl ?_
    refine r_iret rfl (dk_at dkX6_searched 13 rfl) ?_
    refine ⟨?_, _, _, _, _, _, _, _, _, _, hM, hL, hF⟩
    rw [if_pos (by unfold alS; omega)]

/-- the least cost, of all jobs or of none -/
theorem lc_fn {S : Shp} (hk : Sok S) {fi : Int} : (if (0 : Nat) = alS S then 0 else fn S fi 0 (-1) 0 (neu S)) = lcS S fi := by
  have hp := nt_pow_r hk.c
  unfold lcS fnS alS
  by_cases z : S.cnt = 0
  · rw [if_pos z, if_pos (by rw [z])]
  · have : 2 ^ 1 ≤ 2 ^ S.cnt := Nat.pow_le_pow_right (by decide) (by omega)
    rw [if_neg z, if_neg (by omega)]
theorem sr_r {S : Shp} (hk : Sok S) {fi : Int} (hf : fi = -1 ∨ (0 ≤ fi ∧ fi < S.cnt)) {wo : Nat} (hwo : wo < 2 ^ S.cnt) {x : Int} (e : x = (if wo = alS S then 0 else fn S fi wo (-1) 0 (neu S))) : -1000000 ≤ x ∧ x ≤ 288000000 := by
  by_cases z : wo = alS S
  · rw [if_pos z] at e; omega
  · rw [if_neg z, ← fn_neu hk hwo z (by omega)] at e
    have hFl := fn_le hk hf (l := -1) hwo (Ent.start hk wo)
    have hFg := fin_sum hk (fi := fi) 8 wo (-1) 0 (neuM S) (Int.le_refl _)
    have hng := neuM_r S
    rw [INF_v] at hFg
    have hFg : min (neuM S) 1000000000000000 ≤ fn S fi wo (-1) 0 (neuM S) := hFg
    omega
set_option maxHeartbeats 4000000 in
set_option maxRecDepth 100000 in
theorem k_M_best {d n : Nat} {h : PH} {m : Nat} {A sd sq op ss es bo su se tx ba le fr un sF sR sT ad : Nat → Int} {sm th l0 bm tl nf ne nc : Int} {S : Shp} (hd : 8 ≤ d) (hR : MR A S) (hk : Sok S) (hL : LInv le fr un) (hM : isModel n h m A sd sm th sq op l0 ss es bo su se bm tx tl ba le fr un nf ne nc sF sR sT ad) : CtrI mX6_best d [vR m] n h (fun x h' => x = lcS S (-1) ∧ (-1000000 ≤ x ∧ x ≤ 288000000) ∧ ∃ (le1 fr1 un1 sF1 sR1 sT1 : Nat → Int) (nf1 ne1 nc1 : Int), isModel n h' m A sd sm th sq op l0 ss es bo su se bm tx tl ba le1 fr1 un1 nf1 ne1 nc1 sF1 sR1 sT1 ad ∧ LInv le1 fr1 un1 ∧ Fr h h' m (m + 19)) := by
  have hF : Fr h h m (m + 19) := Fr.rf
  refine q_beginI (L := [some (vR m)]) rfl ?_
  refine q_aload_n (pc' := 1) (dk_at dkX6_best 0 rfl) rfl rfl ?_
  refine q_iconst (pc' := 2) (dk_at dkX6_best 1 rfl) rfl ?_
  refine q_iconst (pc' := 3) (dk_at dkX6_best 2 rfl) rfl ?_
  refine r_cVI (pc' := 6) (As := [vI 0, vI (-1)]) (S := []) cv_RX6_230 (dk_at dkX6_best 3 rfl) hM.obj rfl (k_M_searched (d := 7) (S := S) (wo := 0) (f1 := -1) (by omega) hR hk Nat.one_le_two_pow (Or.inl rfl) (Or.inr ⟨rfl, rfl⟩) hL hM) (by omega) (Nat.zero_le _) (Nat.zero_le _) rfl (Nat.le_of_ble_eq_true rfl) rfl (Nat.le_of_ble_eq_true rfl) rfl (fun xx1 hh2 hphh2 => ?_)
  obtain ⟨ex1, le1, fr1, un1, sF1, sR1, sT1, nf1, ne1, nc1, hM, hL, hGf⟩ := hphh2
  have hF := hF.tr hGf (by omega)
  have exr := sr_r hk (Or.inl rfl) Nat.one_le_two_pow ex1
  rw [lc_fn hk] at ex1
  refine r_iret rfl (dk_at dkX6_best 4 rfl) ?_
  exact ⟨ex1, exr, _, _, _, _, _, _, _, _, _, hM, hL, hF⟩
