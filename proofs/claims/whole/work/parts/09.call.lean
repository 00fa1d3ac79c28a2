/-! CALLS -/
theorem prs_ent (B : Nat) : ∀ (As : List PV) (i : Nat), prs B i (ent As) = lv_args i (As.map (tv B))
  | [], i => rfl
  | .inr (.inl z) :: l, i => by
    simp only [ent, prs, List.map_cons, lv_args]
    rw [prs_ent B l, if_pos (by rfl)]
  | .inl z :: l, i => by
    simp only [ent, prs, List.map_cons, lv_args]
    rw [prs_ent B l, if_neg (by simp [tv, Value.category])]
  | .inr (.inr none) :: l, i => by
    simp only [ent, prs, List.map_cons, lv_args]
    rw [prs_ent B l, if_neg (by simp [tv, Value.category])]
  | .inr (.inr (some k)) :: l, i => by
    simp only [ent, prs, List.map_cons, lv_args]
    rw [prs_ent B l, if_neg (by simp [tv, Value.category])]
theorem ent_len (B : Nat) : ∀ (As : List PV), (lg_sl (As.map (tv B))).length = (ent As).length
  | [] => rfl
  | .inr (.inl z) :: l => by
    have := ent_len B l
    simp only [lg_sl, List.map_cons, List.flatMap_cons, ent, List.length_append, List.length_cons] at this ⊢
    rw [if_pos (by rfl), this]
    simp only [List.length_cons, List.length_nil]
    omega
  | .inl z :: l => by
    have := ent_len B l
    simp only [lg_sl, List.map_cons, List.flatMap_cons, ent, List.length_append, List.length_cons] at this ⊢
    rw [if_neg (by simp [tv, Value.category]), this]
    simp only [List.length_cons, List.length_nil]
    omega
  | .inr (.inr none) :: l => by
    have := ent_len B l
    simp only [lg_sl, List.map_cons, List.flatMap_cons, ent, List.length_append, List.length_cons] at this ⊢
    rw [if_neg (by simp [tv, Value.category]), this]
    simp only [List.length_cons, List.length_nil]
    omega
  | .inr (.inr (some k)) :: l => by
    have := ent_len B l
    simp only [lg_sl, List.map_cons, List.flatMap_cons, ent, List.length_append, List.length_cons] at this ⊢
    rw [if_neg (by simp [tv, Value.category]), this]
    simp only [List.length_cons, List.length_nil]
    omega
theorem prs_none (B : Nat) (q : Nat) : ∀ (i : Nat), prs B i (List.replicate q none) = [] := by
  induction q with
  | zero => intro i; rfl
  | succ q ih => intro i; exact ih (i + 1)
theorem prs_app (B : Nat) (q : Nat) : ∀ (L : List (Option PV)) (i : Nat), prs B i (L ++ List.replicate q none) = prs B i L
  | [], i => prs_none B q i
  | none :: l, i => prs_app B q l (i + 1)
  | some v :: l, i => by
    show (i, tv B v) :: prs B (i + 1) (l ++ List.replicate q none) = _
    rw [prs_app B q l (i + 1)]
    rfl
def rmD (d mc ms : Nat) : Room := { frames := d, cells := mc, slots := ms, locals := 40 * d }
def wsM (M : MD) : List Cond := Cond.code M.2.1 M.2.2.1 M.2.2.2.1 M.2.2.2.2.1 :: TB
/-- what is known of a method that is called by its name -/
def CM (M : MD) : Prop := plainName M.2.1.cls = true ∧ M.1 = M.2.1.cls ∧ M.2.2.2.2.2 = [] ∧ M.2.2.2.1 ≤ 21 ∧ Cond.code M.2.1 M.2.2.1 M.2.2.2.1 M.2.2.2.2.1 ∈ TB ∧ Cond.initialized M.2.1.cls ∈ TB ∧ (M.2.1.cls ≠ "java/lang/invoke/MethodHandle" ∧ M.2.1.cls ≠ "java/lang/invoke/VarHandle")
theorem wsM_good {M : MD} (h : CM M) : GoodIn TB (wsM M) := TB_good fun w hw => by
  rcases List.mem_cons.mp hw with rfl | hw
  · exact h.2.2.2.2.1
  · exact hw
/-- what a call is given -/
def PcW (l : Launch) (D : va_G) (B : Nat) (K : Nat → ClassId) (X : XT) (a : Bool) (n : Nat) (h : PH) (U : State) : Prop := va_P D vwCl (wsO B K n h) U.heap ∧ (a = true → U.heap.size = B + n) ∧ Wd l D B K X U
theorem ent_W {M : MD} {d mc ms : Nat} {a : Bool} {F : FT} {As : List PV} {n : Nat} {h : PH} (hC : QW M d mc ms F 0 0 0 (entL M As) [] a n h) (hL : (ent As).length ≤ M.2.2.2.1)
    {p : Program} {l : Launch} {e : Env} {R : Room} {s : State} {m : MethodId} {below : List Frame} {meth : Method} {c : Code} {D : va_G} {B : Nat} {K : Nat → ClassId} {X : XT}
    (O : OKx M d mc ms p l R s m (As.map (tv B)).toArray meth c D B K X) (hP : va_P D vwCl (wsO B K n h) s.heap) (hs : a = true → s.heap.size = B + n) :
    W p l e R s m (As.map (tv B)).toArray below meth c s.heap [] 0 0 (F l below (As.map (tv B)).toArray s D B K X) (entryFrame m (As.map (tv B)).toArray M.2.2.2.1) := by
  have hl := lv_entry (As.map (tv B)) (n := M.2.2.2.1) (by rw [ent_len]; exact hL)
  rw [lg_entry_eq]
  generalize (lg_sl (As.map (tv B)) ++ List.replicate (M.2.2.2.1 - (lg_sl (As.map (tv B))).length) Slot.unset).toArray = ls at hl ⊢
  refine hC p l e R s m _ below meth c D B K X s.heap [] ls O ?_ hP hs va_S.rf
  unfold entL
  rw [prs_app, prs_ent]
  exact hl
theorem Met_of {M : MD} {d mc ms : Nat} {a : Bool} {As : List PV} {n : Nat} {h : PH} {post : Option PV → Nat → PH → Prop} (hM : CM M) (hC : Ctr M d mc ms a As n h post) (hL : (ent As).length ≤ M.2.2.2.1) (l : Launch) (D : va_G) (B : Nat) (K : Nat → ClassId) (X : XT) :
    Met l M.2.1 (wsM M) (rmD d mc ms) (va_Pc (As.map (tv B)) (PcW l D B K X a n h)) (QR B D K a post) mc ms (fun q => B ≤ q) := by
  refine Met.ofW (cc := M.2.2.1) (maxL := M.2.2.2.1) (ret := M.2.2.2.2.1) hM.1 rfl ?_
  intro p e s m args below meth c s₁ Bd hml hv
  obtain ⟨rfl, hP, hs, hWd⟩ := hv
  have hts := atoms_spec (ws := wsM M) Bd.pre
  have ht : c.exceptionTable.toList = tableOf M.2.2.2.2.2 := by
    obtain ⟨meth9, c9, h1, h2, -, -, -, -, h7, -⟩ := Cond.code_spec Bd.named (hts _ List.mem_cons_self)
    cases Option.some.inj (h1.symm.trans Bd.method)
    cases Option.some.inj (h2.symm.trans (Stand.of_body Bd).code)
    rw [Array.isEmpty_iff.mp h7, hM.2.2.1]
    rfl
  exact ent_W hC hL ⟨Bd.exec, Bd.bytes, Bd.returns, hml, by rw [hM.2.1]; exact findClass_of_methodNamed Bd.named, fun w hw => hts w (List.mem_cons_of_mem _ hw), Bd.notSynchronized, (name_of_methodNamed Bd.named Bd.method).1, ⟨Nat.le_refl _, Nat.le_refl _, Nat.le_refl _, Nat.le_refl _⟩, hWd, ht⟩ hP hs
/-- how many words stand under a call -/
def catS : List PV → Nat
  | [] => 0
  | .inr (.inl _) :: l => 2 + catS l
  | _ :: l => 1 + catS l
theorem catS_eq (B : Nat) : ∀ (S : List PV), ((S.map (tv B)).map fun v => v.category).sum = catS S
  | [] => rfl
  | .inr (.inl z) :: l => by simp only [List.map_cons, List.sum_cons, catS, catS_eq B l]; rfl
  | .inl z :: l => by simp only [List.map_cons, List.sum_cons, catS, catS_eq B l]; rfl
  | .inr (.inr none) :: l => by simp only [List.map_cons, List.sum_cons, catS, catS_eq B l]; rfl
  | .inr (.inr (some k)) :: l => by simp only [List.map_cons, List.sum_cons, catS, catS_eq B l]; rfl
section QCALL
variable {M : MD} {d mc ms : Nat} {F : FT} {k u pc pc' : Nat} {L : List (Option PV)} {S S0 : List PV} {a : Bool} {n : Nat} {h : PH}
theorem Pc_blind {l : Launch} {D : va_G} {B : Nat} {K : Nat → ClassId} {X : XT} {As : List Value} : FrameBlind (va_Pc As (PcW l D B K X a n h)) := by
  intro b U g mk q
  obtain ⟨q0, q1, q2, q3⟩ := q
  exact ⟨q0, q1, q2, q3.move (State.WarmedH.refl U) (Nat.le_refl _) (fun _ _ _ => rfl)⟩
theorem Pc_at {l : Launch} {D : va_G} {B : Nat} {K : Nat → ClassId} {X : XT} {s : State} {H : Heap} {locs : List Loc} (hWd : Wd l D B K X s) (HP : va_P D vwCl (wsO B K n h) H) (Hs : a = true → H.size = B + n) (HS : va_S (fun q => B ≤ q) s.heap H locs) (U : State) (hU : U.heap = H) (hW : s.WarmedH U.vm) : PcW l D B K X a n h U :=
  ⟨by rw [hU]; exact HP, fun z => by rw [hU]; exact Hs z, hWd.move hW (by rw [hU]; exact HS.1) (fun q h1 h2 => by rw [hU]; exact HS.2.1 q h1 h2)⟩
theorem q_back {p : Program} {l : Launch} {e : Env} {R : Room} {s : State} {m : MethodId} {args : Array Value} {below : List Frame} {meth : Method} {c : Code} {H : Heap} {locs : List Loc} {Q : State → Prop} {ls : Array Slot} {st0 rest : List Value} {av : Array Value} {B : Nat} {D : va_G} {K : Nat → ClassId} {mc' ms' : Nat} {post : Option PV → Nat → PH → Prop}
    (hr : va_Run p l e R s m args below meth c H locs k u mc' ms' (F0 m pc ls st0) rest (QR B D K a post av) (fun q => B ≤ q)) (HS : va_S (fun q => B ≤ q) s.heap H locs)
    (kk : ∀ (r : Option PV) (n' : Nat) (h' : PH) (H1 : Heap) (locs1 : List Loc), post r n' h' → va_P D vwCl (wsO B K n' h') H1 → (a = true → H1.size = B + n') → va_S (fun q => B ≤ q) s.heap H1 locs1 → W p l e R s m args below meth c H1 locs1 (k + mc') (u + ms') Q (F0 m (pc + 3) ls ((r.map (tv B)).toList ++ rest))) :
    W p l e R s m args below meth c H locs k u Q (F0 m pc ls st0) := by
  intro T hT X
  obtain ⟨v, st₀, t, T', L, h0, X', hL, e1, e2, ⟨r, n', h', hv, hp, hP, hs, hz, hk⟩, st⟩ := hr T hT X
  cases hv
  rw [h0] at hz hk
  obtain ⟨t2, a1, b1⟩ := kk r n' h' T'.heap (locs ++ L) hp (by rw [e1]; exact hP) (fun z => by rw [e1]; exact hs z)
    ⟨Nat.le_trans HS.1 (by rw [e1]; exact hz), fun q h1 h2 => by rw [e1, hk q (Nat.lt_of_lt_of_le h1 HS.1) h2]; exact HS.2.1 q h1 h2, fun q hq => by
      rcases List.mem_append.mp hq with h | h
      · exact HS.2.2 q h
      · exact hL q h⟩ T' rfl X'
  exact ⟨t2, st t2 a1, b1⟩
/-- the words of a call of M' at the pool's place i of class own: nA arguments beside the receiver -/
def CVk (own : String) (i : Nat) (M' : MD) (nA : Nat) : Prop := CM M' ∧ (parseMethodDescriptor M'.2.1.desc).map (fun d => d.parameters.length) = some nA ∧ Cond.methodLink own i M'.2.1 ∈ TB ∧ Cond.instanceMethod M'.2.1 ∈ TB ∧ Cond.selects M'.2.1.cls M'.2.1 M'.2.1 ∈ TB
def CSk (own : String) (i : Nat) (M' : MD) (nA : Nat) : Prop := CM M' ∧ (parseMethodDescriptor M'.2.1.desc).map (fun d => d.parameters.length) = some nA ∧ Cond.methodLink own i M'.2.1 ∈ TB ∧ Cond.static M'.2.1 ∈ TB
def CSNk (own : String) (i : Nat) (M' : MD) (nA : Nat) : Prop := CM M' ∧ (parseMethodDescriptor M'.2.1.desc).map (fun d => d.parameters.length) = some nA ∧ (∃ host, Cond.methodLinkNest own i M'.2.1 host ∈ TN) ∧ Cond.static M'.2.1 ∈ TB
def CIk (own : String) (i : Nat) (M' : MD) : Prop := CM M' ∧ (parseMethodDescriptor M'.2.1.desc).map (fun d => d.parameters.length) = some 0 ∧ Cond.methodLink own i M'.2.1 ∈ TB ∧ Cond.instanceMethod M'.2.1 ∈ TB ∧ M'.2.1.name = "<init>" ∧ M'.2.2.2.2.1 = none
def CINk (own : String) (i : Nat) (M' : MD) : Prop := CM M' ∧ (parseMethodDescriptor M'.2.1.desc).map (fun d => d.parameters.length) = some 0 ∧ (∃ host, Cond.methodLinkNest own i M'.2.1 host ∈ TN) ∧ Cond.instanceMethod M'.2.1 ∈ TB ∧ M'.2.1.name = "<init>" ∧ M'.2.2.2.2.1 = none
theorem q_fit {R : Room} {M' : MD} {d' mc' ms' : Nat} (hM : CM M') (h1 : d ≤ R.frames) (h2 : 40 * d ≤ R.locals) (hd : d' + 1 ≤ d) : (rmD d' mc' ms').frames + 1 ≤ R.frames ∧ 8 + (M'.2.2.2.1 + 11) + (rmD d' mc' ms').locals ≤ R.locals := by
  have := hM.2.2.2.1
  refine ⟨?_, ?_⟩
  · show d' + 1 ≤ R.frames
    omega
  · show 8 + (M'.2.2.2.1 + 11) + 40 * d' ≤ R.locals
    omega
theorem q_callV {M' : MD} {i d' mc' ms' nA o ci : Nat} {As : List PV} {fs : List PV} {cs : List PC} {post : Option PV → Nat → PH → Prop} (hL : CVk M.1 i M' nA) (hdg : decode M.2.2.1 pc = .ok (.invokevirtual i, 3)) (hB : Blk n h o cs) (j : Nat) (hj : cs[j]? = some (cO ci fs)) (hci : (vwCl[ci]?).map (fun q => q.1) = some M'.2.1.cls)
    (hC : Ctr M' d' mc' ms' a (vR (o + j) :: As) n h post) (hd : d' + 1 ≤ d) (hkc : k + mc' ≤ mc) (huc : u + ms' ≤ ms) (hn : As.length = nA) (hl : (ent (vR (o + j) :: As)).length ≤ M'.2.2.2.1) (hst : S0 = As.reverse ++ vR (o + j) :: S) (hsum : catS S ≤ 8) (hq : pc + 3 = pc')
    (kk : ∀ (r : Option PV) (n' : Nat) (h' : PH), post r n' h' → QW M d mc ms F (k + mc') (u + ms') pc' L (r.toList ++ S) a n' h') : QW M d mc ms F k u pc L S0 a n h := by
  subst hq
  subst hst
  intro p l e R s m args below meth c D B K X H locs ls O Hl HP Hs HS
  obtain ⟨hM, hdesc, hlk, hins, hsel⟩ := hL
  obtain ⟨hx, hb, hr, hml, hown, hts, hlocks, hname, ⟨r1, r2, r3, r4⟩, hWd, htab⟩ := id O
  obtain ⟨q, hq, hqn⟩ : ∃ q, vwCl[ci]? = some q ∧ q.1 = M'.2.1.cls := by
    cases hz : vwCl[ci]? with
    | none => rw [hz] at hci; cases hci
    | some q => rw [hz] at hci; exact ⟨q, rfl, Option.some.inj hci⟩
  have hrecv := va_recv hWd.1 HP hq (hB.ws hj B K)
  rw [hqn] at hrecv
  have hcb := callB_of (bytes := M'.2.2.1) (maxL := M'.2.2.2.1) (ret := M'.2.2.2.2.1) (rm := rmD d' mc' ms') (mc := mc') (ms := ms') (R := R) nA hts (wsM_good hM) rfl rfl rfl (hts _ hM.2.2.2.2.2.1) (hts _ hlk) ⟨hM.2.2.2.2.2.2.1, hM.2.2.2.2.2.2.2, hdesc⟩ (q_fit hM r1 r2 hd)
  refine q_back (va_runV (C := M'.2.1.cls) (As := As.map (tv B)) (rest := S.map (tv B)) ⟨hx, hb, hml, hown, hts⟩ (Met_of hM hC hl l D B K X) ⟨hcb, hts _ hins, hts _ hsel⟩ ⟨Pc_blind, hrecv, fun U hU hW => ⟨rfl, Pc_at hWd HP Hs HS U hU hW⟩⟩ rfl (by rw [List.length_map]; exact hn) Hl.1 (by simp only [List.map_append, List.map_reverse, List.map_cons, F0]; rfl) (lv_room (by rw [catS_eq]; exact hsum)) hdg ⟨Nat.le_trans hkc r3, Nat.le_trans huc r4⟩) HS ?_
  intro r n' h' H1 locs1 hp hP1 hs1 hS1
  have := kk r n' h' hp p l e R s m args below meth c D B K X H1 locs1 ls O Hl hP1 hs1 hS1
  rw [List.map_append] at this
  cases r <;> exact this
theorem q_callS {M' : MD} {i d' mc' ms' nA : Nat} {As : List PV} {post : Option PV → Nat → PH → Prop} (hL : CSk M.1 i M' nA) (hdg : decode M.2.2.1 pc = .ok (.invokestatic i, 3))
    (hC : Ctr M' d' mc' ms' a As n h post) (hd : d' + 1 ≤ d) (hkc : k + mc' ≤ mc) (huc : u + ms' ≤ ms) (hn : As.length = nA) (hl : (ent As).length ≤ M'.2.2.2.1) (hst : S0 = As.reverse ++ S) (hsum : catS S ≤ 8) (hq : pc + 3 = pc')
    (kk : ∀ (r : Option PV) (n' : Nat) (h' : PH), post r n' h' → QW M d mc ms F (k + mc') (u + ms') pc' L (r.toList ++ S) a n' h') : QW M d mc ms F k u pc L S0 a n h := by
  subst hq
  subst hst
  intro p l e R s m args below meth c D B K X H locs ls O Hl HP Hs HS
  obtain ⟨hM, hdesc, hlk, hstt⟩ := hL
  obtain ⟨hx, hb, hr, hml, hown, hts, hlocks, hname, ⟨r1, r2, r3, r4⟩, hWd, htab⟩ := id O
  have hcb := callB_of (bytes := M'.2.2.1) (maxL := M'.2.2.2.1) (ret := M'.2.2.2.2.1) (rm := rmD d' mc' ms') (mc := mc') (ms := ms') (R := R) nA hts (wsM_good hM) rfl rfl rfl (hts _ hM.2.2.2.2.2.1) (hts _ hlk) ⟨hM.2.2.2.2.2.2.1, hM.2.2.2.2.2.2.2, hdesc⟩ (q_fit hM r1 r2 hd)
  refine q_back (va_runS (As := As.map (tv B)) (rest := S.map (tv B)) ⟨hx, hb, hml, hown, hts⟩ (Met_of hM hC hl l D B K X) ⟨hcb, hts _ hstt⟩ ⟨Pc_blind, fun U hU hW => ⟨rfl, Pc_at hWd HP Hs HS U hU hW⟩⟩ rfl (by rw [List.length_map]; exact hn) Hl.1 (by simp only [List.map_append, List.map_reverse, F0]) (lv_room (by rw [catS_eq]; exact hsum)) hdg ⟨Nat.le_trans hkc r3, Nat.le_trans huc r4⟩) HS ?_
  intro r n' h' H1 locs1 hp hP1 hs1 hS1
  have := kk r n' h' hp p l e R s m args below meth c D B K X H1 locs1 ls O Hl hP1 hs1 hS1
  rw [List.map_append] at this
  cases r <;> exact this
theorem q_callSN {M' : MD} {i d' mc' ms' nA : Nat} {As : List PV} {post : Option PV → Nat → PH → Prop} (hL : CSNk M.1 i M' nA) (hdg : decode M.2.2.1 pc = .ok (.invokestatic i, 3))
    (hC : Ctr M' d' mc' ms' a As n h post) (hd : d' + 1 ≤ d) (hkc : k + mc' ≤ mc) (huc : u + ms' ≤ ms) (hn : As.length = nA) (hl : (ent As).length ≤ M'.2.2.2.1) (hst : S0 = As.reverse ++ S) (hsum : catS S ≤ 8) (hq : pc + 3 = pc')
    (kk : ∀ (r : Option PV) (n' : Nat) (h' : PH), post r n' h' → QW M d mc ms F (k + mc') (u + ms') pc' L (r.toList ++ S) a n' h') : QW M d mc ms F k u pc L S0 a n h := by
  subst hq
  subst hst
  intro p l e R s m args below meth c D B K X H locs ls O Hl HP Hs HS
  obtain ⟨hM, hdesc, ⟨host, hlk⟩, hstt⟩ := hL
  obtain ⟨hx, hb, hr, hml, hown, hts, hlocks, hname, ⟨r1, r2, r3, r4⟩, hWd, htab⟩ := id O
  have hcb := va_cnB (bytes := M'.2.2.1) (maxL := M'.2.2.2.1) (ret := M'.2.2.2.2.1) (rm := rmD d' mc' ms') (mc := mc') (ms := ms') (R := R) nA hts (wsM_good hM) rfl rfl rfl (hWd.2.2.1 _ hlk) (hts _ hM.2.2.2.2.2.1) ⟨hM.2.2.2.2.2.2.1, hM.2.2.2.2.2.2.2, hdesc⟩ (q_fit hM r1 r2 hd)
  refine q_back (va_runSN (As := As.map (tv B)) (rest := S.map (tv B)) ⟨hx, hb, hml, hown, hts⟩ (Met_of hM hC hl l D B K X) ⟨hcb, hts _ hstt, trivial⟩ ⟨Pc_blind, fun U hU hW => ⟨rfl, Pc_at hWd HP Hs HS U hU hW⟩⟩ rfl (by rw [List.length_map]; exact hn) Hl.1 (by simp only [List.map_append, List.map_reverse, F0]) (lv_room (by rw [catS_eq]; exact hsum)) hdg ⟨Nat.le_trans hkc r3, Nat.le_trans huc r4⟩) HS ?_
  intro r n' h' H1 locs1 hp hP1 hs1 hS1
  have := kk r n' h' hp p l e R s m args below meth c D B K X H1 locs1 ls O Hl hP1 hs1 hS1
  rw [List.map_append] at this
  cases r <;> exact this
theorem q_callI {M' : MD} {i d' mc' ms' o : Nat} {post : Option PV → Nat → PH → Prop} (hL : CIk M.1 i M') (hdg : decode M.2.2.1 pc = .ok (.invokespecial i, 3))
    (hC : Ctr M' d' mc' ms' a [vR o] n h post) (hd : d' + 1 ≤ d) (hkc : k + mc' ≤ mc) (huc : u + ms' ≤ ms) (hl : 1 ≤ M'.2.2.2.1) (hsum : catS S ≤ 8) (hq : pc + 3 = pc')
    (kk : ∀ (r : Option PV) (n' : Nat) (h' : PH), post r n' h' → QW M d mc ms F (k + mc') (u + ms') pc' L (r.toList ++ S) a n' h') : QW M d mc ms F k u pc L (vR o :: S) a n h := by
  subst hq
  intro p l e R s m args below meth c D B K X H locs ls O Hl HP Hs HS
  obtain ⟨hM, hdesc, hlk, hins, hnm, hret⟩ := hL
  obtain ⟨hx, hb, hr, hml, hown, hts, hlocks, hname, ⟨r1, r2, r3, r4⟩, hWd, htab⟩ := id O
  have hcb := callB_of (bytes := M'.2.2.1) (maxL := M'.2.2.2.1) (ret := M'.2.2.2.2.1) (rm := rmD d' mc' ms') (mc := mc') (ms := ms') (R := R) 0 hts (wsM_good hM) rfl rfl rfl (hts _ hM.2.2.2.2.2.1) (hts _ hlk) ⟨hM.2.2.2.2.2.2.1, hM.2.2.2.2.2.2.2, hdesc⟩ (q_fit hM r1 r2 hd)
  rw [hret] at hcb
  refine q_back (va_runI (As := []) (rest := S.map (tv B)) ⟨hx, hb, hml, hown, hts⟩ (Met_of hM hC hl l D B K X) ⟨hcb, hnm, hts _ hins⟩ ⟨Pc_blind, fun U hU hW => ⟨rfl, Pc_at hWd HP Hs HS U hU hW⟩⟩ rfl rfl Hl.1 rfl (lv_room (by rw [catS_eq]; exact hsum)) hdg ⟨Nat.le_trans hkc r3, Nat.le_trans huc r4⟩) HS ?_
  intro r n' h' H1 locs1 hp hP1 hs1 hS1
  have := kk r n' h' hp p l e R s m args below meth c D B K X H1 locs1 ls O Hl hP1 hs1 hS1
  rw [List.map_append] at this
  cases r <;> exact this
theorem q_callIN {M' : MD} {i d' mc' ms' o : Nat} {post : Option PV → Nat → PH → Prop} (hL : CINk M.1 i M') (hdg : decode M.2.2.1 pc = .ok (.invokespecial i, 3))
    (hC : Ctr M' d' mc' ms' a [vR o] n h post) (hd : d' + 1 ≤ d) (hkc : k + mc' ≤ mc) (huc : u + ms' ≤ ms) (hl : 1 ≤ M'.2.2.2.1) (hsum : catS S ≤ 8) (hq : pc + 3 = pc')
    (kk : ∀ (r : Option PV) (n' : Nat) (h' : PH), post r n' h' → QW M d mc ms F (k + mc') (u + ms') pc' L (r.toList ++ S) a n' h') : QW M d mc ms F k u pc L (vR o :: S) a n h := by
  subst hq
  intro p l e R s m args below meth c D B K X H locs ls O Hl HP Hs HS
  obtain ⟨hM, hdesc, ⟨host, hlk⟩, hins, hnm, hret⟩ := hL
  obtain ⟨hx, hb, hr, hml, hown, hts, hlocks, hname, ⟨r1, r2, r3, r4⟩, hWd, htab⟩ := id O
  have hcb := va_cnB (bytes := M'.2.2.1) (maxL := M'.2.2.2.1) (ret := M'.2.2.2.2.1) (rm := rmD d' mc' ms') (mc := mc') (ms := ms') (R := R) 0 hts (wsM_good hM) rfl rfl rfl (hWd.2.2.1 _ hlk) (hts _ hM.2.2.2.2.2.1) ⟨hM.2.2.2.2.2.2.1, hM.2.2.2.2.2.2.2, hdesc⟩ (q_fit hM r1 r2 hd)
  rw [hret] at hcb
  refine q_back (va_runIN (As := []) (rest := S.map (tv B)) ⟨hx, hb, hml, hown, hts⟩ (Met_of hM hC hl l D B K X) ⟨hcb, hnm, hts _ hins⟩ ⟨Pc_blind, fun U hU hW => ⟨rfl, Pc_at hWd HP Hs HS U hU hW⟩⟩ rfl rfl Hl.1 rfl (lv_room (by rw [catS_eq]; exact hsum)) hdg ⟨Nat.le_trans hkc r3, Nat.le_trans huc r4⟩) HS ?_
  intro r n' h' H1 locs1 hp hP1 hs1 hS1
  have := kk r n' h' hp p l e R s m args below meth c D B K X H1 locs1 ls O Hl hP1 hs1 hS1
  rw [List.map_append] at this
  cases r <;> exact this
end QCALL
