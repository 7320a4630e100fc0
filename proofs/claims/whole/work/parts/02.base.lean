def GW : List Cond := lw_tbl.filter goodWord
theorem GW_ok : GoodIn GW GW := fun w h => ⟨h, good_of_word (List.mem_filter.mp h).2⟩
theorem GW_in {w : Cond} (h : w ∈ lw_tbl) (hg : goodWord w = true) : w ∈ GW := List.mem_filter.mpr ⟨h, hg⟩
theorem GW_cons {y : MethodName} {b : ByteArray} {n : Nat} {r : Option FieldType} (h : Cond.code y b n r ∈ GW) : GoodIn GW (Cond.code y b n r :: GW) := fun w hw => GW_ok w ((List.mem_cons.mp hw).elim (fun e => e ▸ h) id)
abbrev gK : Type := Launch × (Nat → ClassId) × (Nat → Nat → Nat) × ClassId × ClassId
abbrev gM : Type := MethodName × ByteArray × Nat × Option FieldType × Room
abbrev gX : Type := Program × Env × State × MethodId × Array Value × List Frame × Method × Code × (Nat → Prop) × (State → Prop)
abbrev Xp (X : gX) : Program := X.1
abbrev Xe (X : gX) : Env := X.2.1
abbrev Xs (X : gX) : State := X.2.2.1
abbrev Xm (X : gX) : MethodId := X.2.2.2.1
abbrev Xa (X : gX) : Array Value := X.2.2.2.2.1
abbrev Xb (X : gX) : List Frame := X.2.2.2.2.2.1
abbrev Xh (X : gX) : Method := X.2.2.2.2.2.2.1
abbrev Xc (X : gX) : Code := X.2.2.2.2.2.2.2.1
abbrev XA (X : gX) : Nat → Prop := X.2.2.2.2.2.2.2.2.1
abbrev XQ (X : gX) : State → Prop := X.2.2.2.2.2.2.2.2.2
abbrev gD (K : gK) : va_G := (K.2.1, K.2.2.1)
abbrev kI (K : gK) : ClassId := K.2.2.2.1
abbrev kZ (K : gK) : ClassId := K.2.2.2.2
def gN : List (String × Nat × MethodName × String) := [("SnoreCars", 11, ⟨"SnoreCars$Text", "<init>", "()V"⟩, "SnoreCars"), ("SnoreCars", 32, ⟨"SnoreCars$Ear", "<init>", "()V"⟩, "SnoreCars"), ("SnoreCars", 42, ⟨"SnoreCars$Night", "<init>", "()V"⟩, "SnoreCars"), ("SnoreCars", 71, ⟨"SnoreCars$MakingUp", "<init>", "()V"⟩, "SnoreCars"), ("SnoreCars", 78, ⟨"SnoreCars$Shunting", "<init>", "()V"⟩, "SnoreCars"), ("SnoreCars$Shunting", 23, ⟨"SnoreCars$Steps", "<init>", "()V"⟩, "SnoreCars"), ("SnoreCars$Text", 19, ⟨"SnoreCars", "lay", "([III)V"⟩, "SnoreCars"), ("SnoreCars$Text", 113, ⟨"SnoreCars", "at", "([II)I"⟩, "SnoreCars"), ("SnoreCars$Ear", 41, ⟨"SnoreCars", "at", "([II)I"⟩, "SnoreCars"), ("SnoreCars$Ear", 45, ⟨"SnoreCars", "lay", "([III)V"⟩, "SnoreCars"), ("SnoreCars$Ear", 63, ⟨"SnoreCars", "apart", "(II)I"⟩, "SnoreCars"), ("SnoreCars$Shelf", 26, ⟨"SnoreCars", "at", "([II)I"⟩, "SnoreCars"), ("SnoreCars$Shelf", 30, ⟨"SnoreCars", "lay", "([III)V"⟩, "SnoreCars"), ("SnoreCars$MakingUp", 72, ⟨"SnoreCars", "at", "([II)I"⟩, "SnoreCars"), ("SnoreCars$MakingUp", 45, ⟨"SnoreCars", "lay", "([III)V"⟩, "SnoreCars"), ("SnoreCars$Shunting", 40, ⟨"SnoreCars", "at", "([II)I"⟩, "SnoreCars"), ("SnoreCars$Shunting", 57, ⟨"SnoreCars", "lay", "([III)V"⟩, "SnoreCars"), ("SnoreCars$Steps", 33, ⟨"SnoreCars", "carOf", "([II)I"⟩, "SnoreCars"), ("SnoreCars$Steps", 40, ⟨"SnoreCars", "isFull", "(LSnoreCars$Train;[II)Z"⟩, "SnoreCars"), ("SnoreCars$Steps", 50, ⟨"SnoreCars", "lay", "([III)V"⟩, "SnoreCars"), ("SnoreCars$Steps", 54, ⟨"SnoreCars", "at", "([II)I"⟩, "SnoreCars"), ("SnoreCars$Night", 28, ⟨"SnoreCars", "at", "([II)I"⟩, "SnoreCars")]
def gE (K : gK) (U : State) : Prop := va_K (gD K) vwCl [(kI K, .int), (kZ K, .boolean)] U ∧ ∀ q ∈ gN, va_Nw (.methodLinkNest q.1 q.2.1 q.2.2.1 q.2.2.2) U
theorem gE_warm {K : gK} {s U : State} (hW : s.WarmedH U.vm) (h : gE K s) : gE K U := ⟨va_K.moved hW.alike h.1, fun q hq => va_Nw.warmM hW (h.2 q hq)⟩
theorem gE_vm {K : gK} {s U : State} (hv : s.vm = U.vm) (h : gE K s) : gE K U := ⟨va_K.moved (by rw [hv]; exact Vm.Alike.refl U.vm) h.1, fun q hq => va_Nw.same rfl hv (h.2 q hq)⟩
def gC (K : gK) (X : gX) (M : gM) : Prop :=
  (Xp X).tables.exec = Jvm.exec ∧ (Xc X).code = M.2.1 ∧ (Xc X).maxLocals = M.2.2.1 ∧ (Xs X).vm.findClass M.1.cls = some (Xm X).cls ∧ (∀ w ∈ GW, w.before (Xa X) (Xs X) = true) ∧ (Xh X).sig.returnType = M.2.2.2.1 ∧ (Xh X).locks = false ∧ (M.1.name = "<init>" → (Xh X).name = "<init>") ∧ gE K (Xs X) ∧ ∀ q, (Xs X).heap.size ≤ q → XA X q
def Go (K : gK) (X : gX) (M : gM) (k n : Nat) (ws : va_W) (L : List (Nat × Value)) (pc : Nat) (st : List Value) : Prop :=
  gC K X M → ∀ (H : Heap) (locs : List Loc) (ls : Array Slot), va_P (gD K) vwCl ws H → va_D (XA X) ws → va_S (XA X) (Xs X).heap H locs → lv_has ls M.2.2.1 L →
    W (Xp X) K.1 (Xe X) M.2.2.2.2 (Xs X) (Xm X) (Xa X) (Xb X) (Xh X) (Xc X) H locs k n (XQ X) (F0 (Xm X) pc ls st)
def QC (K : gK) (wi : va_W) (O : Option Value → va_W → Prop) (sz : Nat) : Array Value → State → Outcome → State → Prop := fun _ st oc t =>
  (∃ (r : Option Value) (wo : va_W), oc = .returned r ∧ O r wo ∧ va_P (gD K) vwCl wo t.heap ∧ va_D (va_A wi sz) wo) ∧ va_F (va_A wi sz) st t
def PC (K : gK) (As : List Value) (wi : va_W) (sz : Nat) : Array Value → State → Prop := va_Pc As (fun U => U.heap.size = sz ∧ va_P (gD K) vwCl wi U.heap ∧ gE K U ∧ va_D (fun _ => True) wi)
def Kn (K : gK) (M : gM) (As : List Value) (wi : va_W) (O : Option Value → va_W → Prop) : Prop := ∀ sz : Nat,
  Met K.1 M.1 (Cond.code M.1 M.2.1 M.2.2.1 M.2.2.2.1 :: GW) M.2.2.2.2 (PC K As wi sz) (QC K wi O sz) M.2.2.2.2.cells M.2.2.2.2.slots (va_A wi sz)
def gR (K : gK) (X : gX) (M : gM) (wi : va_W) (O : Option Value → va_W → Prop) : Prop := XA X = va_A wi (Xs X).heap.size ∧ XQ X = MQ (Xb X) (QC K wi O (Xs X).heap.size) (Xa X) (Xs X) M.2.2.2.2.cells M.2.2.2.2.slots (va_A wi (Xs X).heap.size)
theorem PC_blind {K : gK} {As : List Value} {wi : va_W} {sz : Nat} : FrameBlind (PC K As wi sz) := fun a U g mk q => by
  obtain ⟨q0, q1, qP, qE, qD⟩ := q
  exact ⟨q0, q1, qP, gE_vm (U := U.calling g mk a) rfl qE, qD⟩
theorem PC_at {K : gK} {X : gX} {M : gM} {As : List Value} {wi ws : va_W} {H : Heap} {A : Nat → Prop} (C : gC K X M) (hP : va_P (gD K) vwCl ws H) (hD : va_D A ws) (isC : List Nat) (hC : isC.map (fun i => ws[i]?) = wi.map some) (hn : va_nd isC = true) :
    ∀ U : State, U.heap = H → (Xs X).WarmedH U.vm → PC K As wi H.size As.toArray U := fun U hU hW => by
  have hs : isC.filterMap (fun i => ws[i]?) = wi := by
    have h1 : (isC.map (fun i => ws[i]?)).filterMap id = (wi.map some).filterMap id := by rw [hC]
    simpa [List.filterMap_map] using h1
  exact ⟨rfl, by rw [hU], by rw [hU]; exact hP.sub isC hs, gE_warm hW C.2.2.2.2.2.2.2.2.1, (hD.sub isC hn hC).weaken (fun _ _ _ _ => trivial)⟩
theorem kn_of {K : gK} {M : gM} {As : List Value} {wi : va_W} {O : Option Value → va_W → Prop} (hy : plainName M.1.cls = true) (hlen : (lg_sl As).length ≤ M.2.2.1)
    (body : ∀ X : gX, gR K X M wi O → Go K X M 0 0 wi (lv_args 0 As) 0 []) : Kn K M As wi O := by
  intro sz
  refine Met.ofW (cc := M.2.1) (maxL := M.2.2.1) (ret := M.2.2.2.1) hy rfl ?_
  intro p e s m args below meth c s₁ B hml hv
  obtain ⟨rfl, hsz, hP, hE, hD0⟩ := hv
  have hts := atoms_spec (ws := Cond.code M.1 M.2.1 M.2.2.1 M.2.2.2.1 :: GW) B.pre
  have hown : s.vm.findClass M.1.cls = some m.cls := findClass_of_methodNamed B.named
  subst hsz
  rw [lg_entry_eq]
  exact body (p, e, s, m, As.toArray, below, meth, c, va_A wi s.heap.size, MQ below (QC K wi O s.heap.size) As.toArray s M.2.2.2.2.cells M.2.2.2.2.slots (va_A wi s.heap.size)) ⟨rfl, rfl⟩
    ⟨B.exec, B.bytes, hml, hown, fun w hw => hts w (List.mem_cons_of_mem _ hw), B.returns, B.notSynchronized, (fun h => (name_of_methodNamed B.named B.method).1.trans h), hE, fun q h => Or.inr h⟩
    s.heap [] _ hP hD0.self va_S.rf (lv_entry As hlen)
section CallCore
variable {p : Program} {l : Launch} {e : Env} {R : Room} {s : State} {m : MethodId} {args : Array Value} {below : List Frame} {meth : Method} {c : Code} {H : Heap} {locs : List Loc} {k n mc ms : Nat} {Q : State → Prop}
theorem w_call {K : gK} {wi wr ws : va_W} {O : Option Value → va_W → Prop} {a : Array Value} {A : Nat → Prop} {pc : Nat} {ls : Array Slot} {st rest : List Value}
    (hr : va_Run p l e R s m args below meth c H locs k n mc ms (F0 m pc ls st) rest (QC K wi O H.size a) (va_A wi H.size))
    (hP : va_P (gD K) vwCl ws H) (hD : va_D A ws) (hS : va_S A s.heap H locs) (hA : ∀ q, s.heap.size ≤ q → A q) (isC isR : List Nat) (hC : isC.map (fun i => ws[i]?) = wi.map some) (hR : isR.map (fun i => ws[i]?) = wr.map some) (hnd : va_nd isR = true) (hdis : ∀ i ∈ isR, i ∉ isC)
    (kk : ∀ (r : Option Value) (wo : va_W), O r wo → ∀ (H1 : Heap) (locs1 : List Loc), va_P (gD K) vwCl (wr ++ wo) H1 → va_D A (wr ++ wo) → va_S A s.heap H1 locs1 → W p l e R s m args below meth c H1 locs1 (k + mc) (n + ms) Q (F0 m (pc + 3) ls (r.toList ++ rest))) :
    W p l e R s m args below meth c H locs k n Q (F0 m pc ls st) := by
  intro T hT X
  obtain ⟨v, st₀, t, T', L, h0, X', hL, e1, e2, ⟨⟨r, wo, hv, hO, hP1, hD1⟩, hz, hk⟩, go⟩ := hr T hT X
  cases hv
  rw [h0] at hz hk
  have hF := va_free hD hS hA isC hC
  have hk' : ∀ q : Nat, q < H.size → ¬ va_A wi H.size q → T'.heap[q]? = H[q]? := fun q h1 h2 => by rw [e1]; exact hk q h1 h2
  obtain ⟨hP2, hD2⟩ := va_join hP hD isC isR hC hR hnd hdis hk' hF (by rw [e1]; exact hP1) hD1
  obtain ⟨t2, a1, b1⟩ := kk v wo hO T'.heap (locs ++ L) hP2 hD2 ⟨Nat.le_trans hS.1 (by rw [e1]; exact hz), fun q h1 h2 => by rw [hk' q (Nat.lt_of_lt_of_le h1 hS.1) (fun z => h2 (hF q z))]; exact hS.2.1 q h1 h2, fun q hq => (List.mem_append.mp hq).elim (hS.2.2 q) (fun h => hF _ (hL q h))⟩ T' rfl X'
  exact ⟨t2, go t2 a1, b1⟩
end CallCore
