/-! CONTRACTS OF METHODS THAT RETURN OR THROW -/
def XCx (B : Nat) (D : va_G) (K : Nat → ClassId) (n : Nat) (px : String → PH → Prop) : String → State → State → Prop := fun E st t => ∃ h : PH, px E h ∧ va_P D vwCl (wsO B K n h) t.heap ∧ va_F (fun q => B ≤ q) st t
def FX (n : Nat) (post : Option PV → PH → Prop) (px : String → PH → Prop) : FT := fun _ below args s D B K _ => vx_MQ below (QR B D K false (fun r n' h' => n' = n ∧ post r h')) (XCx B D K n px) args s 1 6 (fun q => B ≤ q)
def CtrX (M : MD) (d : Nat) (As : List PV) (n : Nat) (h : PH) (post : Option PV → PH → Prop) (px : String → PH → Prop) : Prop := QW M d 1 6 (FX n post px) 0 0 0 (entL M As) [] false n h
def NMS : List String := ["java/lang/RuntimeException", "java/lang/Exception"]
/-- the tables' words of 'throw new cls(text)' in a class -/
def THk (own cls : String) (ik ic : Nat) : Prop := Bundle.fit cls = true ∧ Cond.classLink own ik cls ∈ TB ∧ Cond.initialized cls ∈ TB ∧ (∀ w ∈ (vx_atS own ic cls NMS).filter goodWord, w ∈ lw_tbl) ∧ (∀ w ∈ (vx_atS own ic cls NMS).filter (fun w => !goodWord w), w ∈ lw_tbl ∧ nWord w = true) ∧ Cond.castable cls cls ∈ TN ∧ ∀ w ∈ Cond.classLink own ik cls :: Cond.initialized cls :: vx_atS own ic cls NMS, vx_ot w = true
theorem nWord_on {w : Cond} (h : nWord w = true) : w.onTables = true := by cases w <;> first | rfl | cases h
theorem lw_in {w : Cond} {i : Nat} (h : lw_tbl[i]? = some w) : w ∈ lw_tbl := List.mem_of_getElem? h
section QTHROW
variable {M : MD} {d mc ms : Nat} {F : FT} {k u pc pc' : Nat} {L : List (Option PV)} {S S0 : List PV} {n : Nat} {h : PH}
theorem q_throw {ik is ic : Nat} {cls text : String} {post : Option PV → PH → Prop} {px : String → PH → Prop} (hT : THk M.1 cls ik ic) (hM1 : M.1 = "BatchMachine") (hM0 : M.2.2.2.2.2 = []) (hstr : (is, text) ∈ STR) (hd : 6 ≤ d) (hsum : catS S ≤ 8)
    (d0 : decode M.2.2.1 pc = .ok (.new ik, 3)) (d3 : decode M.2.2.1 (pc + 3) = .ok (.dup, 1)) (d4 : decode M.2.2.1 (pc + 4) = .ok (.ldc is, 2)) (d6 : decode M.2.2.1 (pc + 6) = .ok (.invokespecial ic, 3)) (d9 : decode M.2.2.1 (pc + 9) = .ok (.athrow, 1)) (hp : px cls h) : QW M d 1 6 (FX n post px) 0 0 pc L S false n h := by
  intro p l e R s m args below meth c D B K X H locs ls O Hl HP Hs HS
  obtain ⟨hx', hb, hr, hml, hown, hts, hlocks, hname, ⟨r1, r2, r3, r4⟩, hWd, htab⟩ := id O
  obtain ⟨t1, t2, t3, t4, t5, t6, t7⟩ := hT
  obtain ⟨-, -, -, -, -, -, -, w1, w2, w3, w4, -⟩ := hWd
  have w4' := w4 _ hstr
  rw [← hM1] at w4'
  refine vx_throwS (text := text) (names := NMS) (mc := 1) (ms := 6) hx' hb w1 hown t1 (by decide +kernel) (hts _ t2) (hts _ t3) w4' ?_ t7 w2 w3 HS (Hl.1.trans hml.symm) d0 d3 d4 d6 d9 ?_ ?_ ?_ ?_ ?_ hlocks ?_ HS.2.2 (Nat.le_refl _) (Nat.le_refl _)
  · exact vx_hat (fun w hw => hts w (List.mem_filter.mpr ⟨t4 w hw, (List.mem_filter.mp hw).2⟩)) (fun w hw => hw) (fun w hw => va_Nw.use (nWord_on (t5 w hw).2) (O.2.2.2.2.2.2.2.2.2.1.2.2.1 _ (List.mem_filter.mpr (t5 w hw))))
  · rw [htab, hM0]
    intro x hx
    cases hx
  · show 2 + 3 < R.frames
    omega
  · rw [catS_eq]
    show catS S + (13 * (2 + 1) + 43) ≤ R.locals
    omega
  · omega
  · omega
  · intro t ht hz hq
    exact ⟨h, hp, HP.kept (fun k x hx => hq x.1 ((HP k x hx).lt)), Nat.le_trans HS.1 hz, fun q h1 h2 => by rw [hq q (Nat.lt_of_lt_of_le h1 HS.1)]; exact HS.2.1 q h1 h2⟩
theorem x_iret {x : Int} {post : Option PV → PH → Prop} {px : String → PH → Prop} (hr : M.2.2.2.2.1 = some .int) (hdg : decode M.2.2.1 pc = .ok (.ireturn, 1)) (hp : post (some (vI x)) h) : QW M d 1 6 (FX n post px) 0 0 pc L [vI x] false n h := by
  intro p l e R s m args below meth c D B K X H locs ls O Hl HP Hs HS
  exact vx_ret (q_iret (d := d) (mc := 1) (ms := 6) (post := fun r n' h' => n' = n ∧ post r h') hr hdg (Nat.zero_le _) (Nat.zero_le _) ⟨rfl, hp⟩ p l e R s m args below meth c D B K X H locs ls O Hl HP Hs HS)
theorem x_lret {x : Int} {post : Option PV → PH → Prop} {px : String → PH → Prop} (hr : M.2.2.2.2.1 = some .long) (hdg : decode M.2.2.1 pc = .ok (.lreturn, 1)) (hp : post (some (vJ x)) h) : QW M d 1 6 (FX n post px) 0 0 pc L [vJ x] false n h := by
  intro p l e R s m args below meth c D B K X H locs ls O Hl HP Hs HS
  exact vx_ret (q_lret (d := d) (mc := 1) (ms := 6) (post := fun r n' h' => n' = n ∧ post r h') hr hdg (Nat.zero_le _) (Nat.zero_le _) ⟨rfl, hp⟩ p l e R s m args below meth c D B K X H locs ls O Hl HP Hs HS)
theorem q_beginX {As : List PV} {post : Option PV → PH → Prop} {px : String → PH → Prop} (hL : entL M As = L) (kk : QW M d 1 6 (FX n post px) 0 0 0 L [] false n h) : CtrX M d As n h post px := by subst hL; exact kk
theorem CtrX.mono {As : List PV} {post post' : Option PV → PH → Prop} {px px' : String → PH → Prop} (H : CtrX M d As n h post px) (h1 : ∀ r h', post r h' → post' r h') (h2 : ∀ E h', px E h' → px' E h') : CtrX M d As n h post' px' := by
  intro p l e R s m args below meth c D B K X H1 locs ls O Hl HP Hs HS T hT X'
  obtain ⟨t, a1, o, b1, b2, b3⟩ := H p l e R s m args below meth c D B K X H1 locs ls O Hl HP Hs HS T hT X'
  refine ⟨t, a1, o, b1, b2, ?_⟩
  rcases b3 with ⟨⟨r, n', h', z1, ⟨z2, z3⟩, z4⟩, c2⟩ | ⟨q, c1, E, ce, Ls, ⟨h', z1, z2⟩, c3⟩
  · exact Or.inl ⟨⟨r, n', h', z1, ⟨z2, h1 _ _ z3⟩, z4⟩, c2⟩
  · exact Or.inr ⟨q, c1, E, ce, Ls, ⟨h', h2 _ _ z1, z2⟩, c3⟩
theorem MetX_of {As : List PV} {post : Option PV → PH → Prop} {px : String → PH → Prop} (hM : CM M) (hC : CtrX M d As n h post px) (hL : (ent As).length ≤ M.2.2.2.1) (l : Launch) (D : va_G) (B : Nat) (K : Nat → ClassId) (X : XT) :
    vx_Met l M.2.1 (wsM M) (rmD d 1 6) (va_Pc (As.map (tv B)) (PcW l D B K X false n h)) (QR B D K false (fun r n' h' => n' = n ∧ post r h')) (XCx B D K n px) 1 6 (fun q => B ≤ q) := by
  refine vx_ofW (cc := M.2.2.1) (maxL := M.2.2.2.1) (ret := M.2.2.2.2.1) hM.1 rfl ?_
  intro p e s m args below meth c s₁ Bd hml hno hv
  obtain ⟨rfl, hP, hs, hWd⟩ := hv
  have hts := atoms_spec (ws := wsM M) Bd.pre
  have ht : c.exceptionTable.toList = tableOf M.2.2.2.2.2 := by
    rw [hM.2.2.1]
    cases hz : c.exceptionTable.toList with
    | nil => rfl
    | cons x xs => exact absurd (by rw [hz]; exact List.mem_cons_self) (fun z => hno x z)
  exact ent_W hC hL ⟨Bd.exec, Bd.bytes, Bd.returns, hml, by rw [hM.2.1]; exact findClass_of_methodNamed Bd.named, fun w hw => hts w (List.mem_cons_of_mem _ hw), Bd.notSynchronized, (name_of_methodNamed Bd.named Bd.method).1, ⟨Nat.le_refl _, Nat.le_refl _, Nat.le_refl _, Nat.le_refl _⟩, hWd, ht⟩ hP hs
/-- where a thrown exception of class E goes: to the handler at hp, past the rows that don't take it -/
def HDk (M : MD) (pc : Nat) (E : String) (hp : Nat) : Prop := ∃ (pre : List ExceptionTableEntry) (x : ExceptionTableEntry) (suf : List ExceptionTableEntry), tableOf M.2.2.2.2.2 = pre ++ x :: suf ∧ (∀ z ∈ pre, z.catchType ≠ 0 ∧ ∃ nm : String, Cond.classLink M.1 z.catchType nm ∈ TB ∧ (E, nm) ∈ NCS) ∧ covers x pc = true ∧ x.catchType ≠ 0 ∧ (∃ nm : String, Cond.classLink M.1 x.catchType nm ∈ TB ∧ Cond.castable E nm ∈ TN) ∧ x.handlerPc = hp
/-- a call of a method that may throw; its exceptions are caught here, by a handler that begins with astore -/
theorem q_callVX {M' : MD} {i d' nA o ci j : Nat} {As : List PV} {fs : List PV} {L' : List (Option PV)} {post : Option PV → PH → Prop} {px : String → PH → Prop} (hL : CVk M.1 i M' nA) (hdg : decode M.2.2.1 pc = .ok (.invokevirtual i, 3)) (hA : At1 n h o (cO ci fs)) (hci : (vwCl[ci]?).map (fun q => q.1) = some M'.2.1.cls)
    (hC : CtrX M' d' (vR o :: As) n h post px) (hd : d' + 1 ≤ d) (hkc : k + 1 ≤ mc) (huc : u + 6 ≤ ms) (hn : As.length = nA) (hl : (ent (vR o :: As)).length ≤ M'.2.2.2.1) (hst : S0 = As.reverse ++ vR o :: S) (hsum : catS S ≤ 8) (hq : pc + 3 = pc')
    (hj : j < M.2.2.2.1) (hjL : ∀ B q, (q : Nat × Value) ∈ prs B 0 L' → q.1 ≠ j ∧ q.1 + 1 ≠ j ∧ q ∈ prs B 0 L)
    (kx : ∀ (E : String) (h' : PH), px E h' → ∃ hp ln, HDk M pc E hp ∧ ((∃ f : Fin 4, (f : Nat) = j ∧ decode M.2.2.1 hp = .ok (.astore_n f, 1) ∧ ln = 1) ∨ (decode M.2.2.1 hp = .ok (.astore j, 2) ∧ ln = 2)) ∧ QW M d mc ms F (k + 1) (u + 6) (hp + ln) L' [] false n h')
    (kk : ∀ (r : Option PV) (h' : PH), post r h' → QW M d mc ms F (k + 1) (u + 6) pc' L (r.toList ++ S) false n h') : QW M d mc ms F k u pc L S0 false n h := by
  subst hq
  subst hst
  intro p l e R s m args below meth c D B K X H locs ls O Hl HP Hs HS
  obtain ⟨hM, hdesc, hlk, hins, hsel⟩ := hL
  obtain ⟨hx, hb, hr, hml, hown, hts, hlocks, hname, ⟨r1, r2, r3, r4⟩, hWd, htab⟩ := id O
  obtain ⟨q, hq, hqn⟩ : ∃ q, vwCl[ci]? = some q ∧ q.1 = M'.2.1.cls := by
    cases hz : vwCl[ci]? with
    | none => rw [hz] at hci; cases hci
    | some q => rw [hz] at hci; exact ⟨q, rfl, Option.some.inj hci⟩
  have hrecv := va_recv hWd.1 HP hq (hA.blk.ws (j := 0) rfl B K)
  rw [hqn] at hrecv
  have hcb := callB_of (bytes := M'.2.2.1) (maxL := M'.2.2.2.1) (ret := M'.2.2.2.2.1) (rm := rmD d' 1 6) (mc := 1) (ms := 6) (R := R) nA hts (wsM_good hM) rfl rfl rfl (hts _ hM.2.2.2.2.2.1) (hts _ hlk) ⟨hM.2.2.2.2.2.2.1, hM.2.2.2.2.2.2.2, hdesc⟩ (q_fit hM r1 r2 hd)
  have hrun := vx_runV (locs := locs) (cells := k) (slots := u) (below := below) (e := e) (p := p) (meth := meth) (c := c) (g := F0 m pc ls ((As.reverse ++ vR o :: S).map (tv B))) (C := M'.2.1.cls) (As := As.map (tv B)) (rest := S.map (tv B)) ⟨hx, hb, hml, hown, hts⟩ (MetX_of hM hC hl l D B K X) ⟨hcb, hts _ hins, hts _ hsel⟩ ⟨Pc_blind, hrecv, fun U hU hW => ⟨rfl, Pc_at hWd HP (fun z => by cases z) HS U hU hW⟩⟩ rfl (by rw [List.length_map]; exact hn) Hl.1 (by simp only [List.map_append, List.map_reverse, List.map_cons, F0]; rfl) (lv_room (by rw [catS_eq]; exact hsum)) hdg ⟨Nat.le_trans hkc r3, Nat.le_trans huc r4⟩
  intro T hT Xs
  have keepS : ∀ {st₀ t T' : State} {Ls : List Loc}, st₀.heap = H → T'.heap = t.heap → va_F (fun q => B ≤ q) st₀ t → (∀ q ∈ Ls, B ≤ q.base) → va_S (fun q => B ≤ q) s.heap T'.heap (locs ++ Ls) := by
    intro st₀ t T' Ls h0 e1 hz hLs
    obtain ⟨hz, hk⟩ := hz
    rw [h0] at hz hk
    exact ⟨Nat.le_trans HS.1 (by rw [e1]; exact hz), fun q h1 h2 => by rw [e1, hk q (Nat.lt_of_lt_of_le h1 HS.1) h2]; exact HS.2.1 q h1 h2, fun q hq => by
      rcases List.mem_append.mp hq with h | h
      · exact HS.2.2 q h
      · exact hLs q h⟩
  rcases hrun T hT Xs with ⟨v, st₀, t, T', Ls, h0, X', hLs, e1, e2, ⟨r, n', h', hv, ⟨rfl, hp⟩, hP1, -, hF1⟩, st⟩ | ⟨q9, st₀, t, T', Ls, E, ce, h0, X', hLs, e1, e2, ⟨h', hp, hP1, hF1⟩, hce, hcv, hcl, st⟩
  · cases hv
    have := kk r h' hp p l e R s m args below meth c D B K X T'.heap (locs ++ Ls) ls O Hl (by rw [e1]; exact hP1) (fun z => by cases z) (keepS h0 e1 hF1 hLs)
    rw [List.map_append] at this
    have this : W p l e R s m args below meth c T'.heap (locs ++ Ls) (k + 1) (u + 6) (F l below args s D B K X) (F0 m (pc + 3) ls ((r.map (tv B)).toList ++ S.map (tv B))) := by cases r <;> exact this
    obtain ⟨t2, a1, b1⟩ := this T' rfl X'
    exact ⟨t2, st t2 a1, b1⟩
  · obtain ⟨hp9, ln, ⟨pre, x, suf, y1, y2, y3, y4, ⟨nm, y5, y6⟩, y7⟩, hst9, hk9⟩ := kx E h' hp
    have hW9 : W p l e R s m args below meth c T'.heap (locs ++ Ls) (k + 1) (u + 6) (F l below args s D B K X) (F0 m x.handlerPc ls [.ref q9]) := by
      rw [y7]
      have fin : ∀ ls' : Array Slot, lv_has ls' M.2.2.2.1 ((j, .ref q9) :: (prs B 0 L).filter (fun q => !(q.1 == j) && !(q.1 + 1 == j && q.2.category == 2))) → W p l e R s m args below meth c T'.heap (locs ++ Ls) (k + 1) (u + 6) (F l below args s D B K X) (F0 m (hp9 + ln) ls' []) := fun ls' h9 => by
        refine hk9 p l e R s m args below meth c D B K X T'.heap (locs ++ Ls) ls' O ?_ (by rw [e1]; exact hP1) (fun z => by cases z) (keepS h0 e1 hF1 hLs)
        refine ⟨h9.1, h9.2.1, fun q hq => h9.2.2 q (List.mem_cons_of_mem _ (List.mem_filter.mpr ?_))⟩
        obtain ⟨g1, g2, g3⟩ := hjL B q hq
        refine ⟨g3, ?_⟩
        simp [g1, g2]
      rcases hst9 with ⟨f, hf, hd9, rfl⟩ | ⟨hd9, rfl⟩
      · subst hf
        exact lv_astore_n hx hb hd9 rfl Hl hj rfl fin
      · exact lv_astore hx hb hd9 Hl hj rfl fin
    have := vx_catch (pc := pc) (ls := ls) (rest := S.map (tv B)) hown pre x suf (htab.trans y1) (fun z hz => Or.inr ⟨(y2 z hz).1, by obtain ⟨nm, g1, g2⟩ := (y2 z hz).2; exact ⟨nm, hts _ g1, hWd.2.2.2.2.2.2.2.2.2.2.2 _ g2⟩⟩) y3 y4 (hts _ y5) (va_Nw.use rfl (hWd.2.2.1 _ y6)) (by rw [e1]; exact hce) hcv hcl hW9
    obtain ⟨t2, a1, b1⟩ := this T' rfl X'
    exact ⟨t2, st.trans a1, b1⟩
end QTHROW
