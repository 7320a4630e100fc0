theorem lr_l {wi wr : va_W} : (List.range wi.length).map (fun i => (wi ++ wr)[i]?) = wi.map some := by
  apply List.ext_getElem?
  intro i
  by_cases h : i < wi.length
  · simp [h, List.getElem?_append_left h]
  · simp [h, List.getElem?_eq_none (Nat.not_lt.mp h)]
theorem lr_r {wi wr : va_W} : ((List.range wr.length).map (fun i => wi.length + i)).map (fun i => (wi ++ wr)[i]?) = wr.map some := by
  apply List.ext_getElem?
  intro i
  by_cases h : i < wr.length
  · simp [h, List.getElem?_append_right (Nat.le_add_right wi.length i)]
  · simp [h, List.getElem?_eq_none (Nat.not_lt.mp h)]
theorem lr_nd : ∀ l : List Nat, l.Nodup → va_nd l = true
  | [], _ => rfl
  | a :: l, h => by
    have h1 := List.nodup_cons.mp h
    simp only [va_nd, Bool.and_eq_true, decide_eq_true_eq]
    exact ⟨h1.1, lr_nd l h1.2⟩
theorem lr_nl (n : Nat) : va_nd (List.range n) = true := lr_nd _ List.nodup_range
theorem lr_mp (k : Nat) : ∀ l : List Nat, va_nd l = true → va_nd (l.map (fun i => k + i)) = true
  | [], _ => rfl
  | a :: l, h => by
    simp only [va_nd, Bool.and_eq_true, decide_eq_true_eq] at h
    simp only [List.map_cons, va_nd, Bool.and_eq_true, decide_eq_true_eq]
    refine ⟨fun q => ?_, lr_mp k l h.2⟩
    obtain ⟨j, hj, e⟩ := List.mem_map.mp q
    have e2 : j = a := by omega
    exact h.1 (e2 ▸ hj)
theorem lr_ap : ∀ l r : List Nat, va_nd l = true → va_nd r = true → (∀ a ∈ l, a ∉ r) → va_nd (l ++ r) = true
  | [], _, _, hr, _ => hr
  | a :: l, r, h, hr, hd => by
    simp only [va_nd, Bool.and_eq_true, decide_eq_true_eq] at h
    show (decide (a ∉ l ++ r) && va_nd (l ++ r)) = true
    simp only [Bool.and_eq_true, decide_eq_true_eq]
    refine ⟨fun q => ?_, lr_ap l r h.2 hr (fun x hx => hd x (List.mem_cons_of_mem _ hx))⟩
    rcases List.mem_append.mp q with q | q
    · exact h.1 q
    · exact hd a List.mem_cons_self q
theorem lr_nr (n k : Nat) : va_nd ((List.range n).map (fun i => k + i)) = true := lr_mp k _ (lr_nl n)
theorem lr_dis (n k : Nat) : ∀ i ∈ (List.range n).map (fun i => k + i), i ∉ List.range k := by
  intro i hi hj
  obtain ⟨j, -, rfl⟩ := List.mem_map.mp hi
  exact absurd (List.mem_range.mp hj) (by omega)
theorem lr_swap {ws' wi wr : va_W} (e : ws' = wr ++ wi) : ((List.range wr.length).map (fun i => wi.length + i) ++ List.range wi.length).map (fun i => (wi ++ wr)[i]?) = ws'.map some := by
  subst e
  rw [List.map_append, lr_r, lr_l, List.map_append]
theorem lr_nsw (n k : Nat) : va_nd ((List.range n).map (fun i => k + i) ++ List.range k) = true := lr_ap _ _ (lr_nr n k) (lr_nl k) (lr_dis n k)
theorem kn_frame {K : gK} {M : gM} {As : List Value} {wi ws wr : va_W} {O : Option Value → va_W → Prop} (h : Kn K M As wi O) (isC isR : List Nat) (hC : isC.map (fun i => ws[i]?) = wi.map some) (hR : isR.map (fun i => ws[i]?) = wr.map some) (hnc : va_nd isC = true) (hnr : va_nd isR = true) (hdis : ∀ i ∈ isR, i ∉ isC) :
    Kn K M As ws (fun r w => ∃ wo, O r wo ∧ w = wr ++ wo) := by
  intro sz p e h1 h2 h3 s m args below h4 h5 hP _
  obtain ⟨rfl, hsz, hP0, hE, hD0⟩ := hP
  have hs : isC.filterMap (fun i => ws[i]?) = wi := by
    have q1 : (isC.map (fun i => ws[i]?)).filterMap id = (wi.map some).filterMap id := by rw [hC]
    simpa [List.filterMap_map] using q1
  obtain ⟨n, o, a1, a2, a3, ⟨⟨r, wo, ho, hO, hP1, hD1⟩, hF⟩, L, hFE, hL⟩ := h sz p e h1 h2 h3 s m As.toArray below h4 h5 ⟨rfl, hsz, hP0.sub isC hs, hE, hD0.sub isC hnc hC⟩ trivial
  have hsub : ∀ q, va_A wi sz q → va_A ws sz q := by
    rintro q (⟨k, e, hk⟩ | hq)
    · refine Or.inl ?_
      have hm : (q, e) ∈ isC.filterMap (fun i => ws[i]?) := by rw [hs]; exact List.mem_of_getElem? hk
      obtain ⟨i, -, hi⟩ := List.mem_filterMap.mp hm
      exact ⟨i, e, hi⟩
    · exact Or.inr hq
  subst hsz
  obtain ⟨j1, j2⟩ := va_join (A0 := va_A ws s.heap.size) hP0 hD0.self isC isR hC hR hnr hdis (fun q x1 x2 => hF.2 q x1 x2) hsub hP1 hD1
  exact ⟨n, o, a1, a2, a3, ⟨⟨r, wr ++ wo, ho, ⟨wo, hO, rfl⟩, j1, j2⟩, hF.1, fun q x1 x2 => hF.2 q x1 (fun x3 => x2 (hsub q x3))⟩, L, hFE, fun q hq => hsub _ (hL q hq)⟩
theorem kn_re {K : gK} {M : gM} {As : List Value} {wi : va_W} {O O' : Option Value → va_W → Prop} (h : Kn K M As wi O) (hO : ∀ r w, O r w → ∃ w' js, O' r w' ∧ js.map (fun i => w[i]?) = w'.map some ∧ va_nd js = true) : Kn K M As wi O' := by
  intro sz p e h1 h2 h3 s m args below h4 h5 hP _
  obtain ⟨n, o, a1, a2, a3, ⟨⟨r, wo, ho, hO1, hP1, hD1⟩, hF⟩, hL⟩ := h sz p e h1 h2 h3 s m args below h4 h5 hP trivial
  obtain ⟨w', js, b1, b2, b3⟩ := hO r wo hO1
  have hs : js.filterMap (fun i => wo[i]?) = w' := by
    have q1 : (js.map (fun i => wo[i]?)).filterMap id = (w'.map some).filterMap id := by rw [b2]
    simpa [List.filterMap_map] using q1
  exact ⟨n, o, a1, a2, a3, ⟨⟨r, w', ho, b1, hP1.sub js hs, hD1.sub js b3 b2⟩, hF⟩, hL⟩
def Kd (K : gK) (M : gM) (As : List Value) (wi : va_W) (r : Option Value) (wo : va_W) : Prop := Kn K M As wi (fun r' w => r' = r ∧ w = wo)
section LawRows
variable {K : gK} {X : gX} {M : gM} {k n pc : Nat} {ws : va_W} {L : List (Nat × Value)} {st : List Value}
theorem go_swap {wi wr : va_W} (kk : Go K X M k n (wr ++ wi) L pc st) : Go K X M k n (wi ++ wr) L pc st := go_ws _ (lr_swap rfl) (lr_nsw _ _) kk
theorem go_callVL {M' : gM} {c ix : Nat} {wi wr wo : va_W} {r : Option Value} {As rest : List Value} {b : Nat} {T1 : u_T} {N1 : Nat} {fs1 : List Value} (ci1 : Nat) (hcr : vwCl[ci1]? = some (M'.1.cls, T1, N1)) (hre : (wi ++ wr)[0]? = some (b, .inr (ci1, fs1))) (hk : Kd K M' (.ref b :: As) wi r wo) (ok : gOkV M' c) (fit : gFit M M') (hc0 : M'.2.2.2.2.cells = 0) (hs0 : M'.2.2.2.2.slots = 0) (hf : k ≤ M.2.2.2.2.cells ∧ n ≤ M.2.2.2.2.slots) (hl : Cond.methodLink M.1.cls ix M'.1 ∈ GW) (hn : As.length = c) (hst : st = As.reverse ++ [Value.ref b] ++ rest) (hW : (rest.map fun v => v.category).sum ≤ 8) (d : decode M.2.1 pc = .ok (.invokevirtual ix, 3)) (kk : Go K X M k n (wr ++ wo) L (pc + 3) (r.toList ++ rest)) : Go K X M k n (wi ++ wr) L pc st := by
  refine go_callV (As := As) (rest := rest) (wr := wr) ci1 0 hcr hre hk ok fit (by rw [hc0, hs0]; exact hf) hl hn hst hW d (List.range wi.length) ((List.range wr.length).map (fun i => wi.length + i)) lr_l lr_r (lr_nl _) (lr_nr _ _) (lr_dis _ _) (fun r' w hO => ?_)
  obtain ⟨rfl, rfl⟩ := hO
  rw [hc0, hs0]
  exact kk
theorem go_sld {b Ls : Nat} {xs : Nat → Int32} {i : Int32} (hX : va_X b Ls xs (Xs X) (Xs X).heap) (hbl : b < (Xs X).heap.size) (hbA : ¬ XA X b) (hin : vp_in i Ls) (d : decode M.2.1 pc = .ok (.iaload, 1)) (kk : Go K X M k n ws L (pc + 1) (.int (xs i.toNatClampNeg) :: st)) : Go K X M k n ws L pc (.int i :: .ref b :: st) :=
  fun C H locs ls hP hD hS hl => va_sld C.1 C.2.1 hX hbl hbA hS hin d (kk C H locs ls hP hD hS hl)
theorem go_slen {b Ls : Nat} {xs : Nat → Int32} (hX : va_X b Ls xs (Xs X) (Xs X).heap) (hbl : b < (Xs X).heap.size) (hbA : ¬ XA X b) (d : decode M.2.1 pc = .ok (.arraylength, 1)) (kk : Go K X M k n ws L (pc + 1) (.int (Int32.ofNat Ls) :: st)) : Go K X M k n ws L pc (.ref b :: st) :=
  fun C H locs ls hP hD hS hl => va_slen C.1 C.2.1 hX hbl hbA hS d (kk C H locs ls hP hD hS hl)
theorem go_icmp_gtP {x y : Int32} {off : Int} (tgt : Nat) (d : decode M.2.1 pc = .ok (.if_icmp .gt off, 3)) (ht : (pc : Int) + off = (tgt : Int)) (kt : y < x → Go K X M k n ws L tgt st) (kf : ¬ y < x → Go K X M k n ws L (pc + 3) st) : Go K X M k n ws L pc (.int y :: .int x :: st) := fun C H locs ls hP hD hS hl => lv_icmp_gt C.1 C.2.1 d ht (fun c => kt c C H locs ls hP hD hS hl) (fun c => kf c C H locs ls hP hD hS hl)
theorem go_icmp_eqP {x : Int32} {off : Int} (tgt : Nat) (d : decode M.2.1 pc = .ok (.if_icmp .eq off, 3)) (ht : (pc : Int) + off = (tgt : Int)) (kt : Go K X M k n ws L tgt st) : Go K X M k n ws L pc (.int x :: .int x :: st) := fun C H locs ls hP hD hS hl => lv_icmp_eq C.1 C.2.1 d ht (fun _ => kt C H locs ls hP hD hS hl) (fun c => absurd rfl c)
theorem go_if_eqP {x : Int32} {off : Int} (tgt : Nat) (d : decode M.2.1 pc = .ok (.ifCond .eq off, 3)) (ht : (pc : Int) + off = (tgt : Int)) (kt : x = 0 → Go K X M k n ws L tgt st) (kf : ¬ x = 0 → Go K X M k n ws L (pc + 3) st) : Go K X M k n ws L pc (.int x :: st) := fun C H locs ls hP hD hS hl => lv_if_eq C.1 C.2.1 d ht (fun c => kt c C H locs ls hP hD hS hl) (fun c => kf c C H locs ls hP hD hS hl)
theorem go_iincP {i : Nat} {c : Int} {x v : Int32} (j : Nat) (L' : List (Nat × Value)) (d : decode M.2.1 pc = .ok (.iinc i c, 3)) (hj : L[j]? = some (i, .int x)) (hv : x + Int32.ofInt c = v) (hn : i < M.2.2.1) (h : lst1 i (.int v) L = L') (kk : Go K X M k n ws L' (pc + 3) st) : Go K X M k n ws L pc st := fun C H locs ls hP hD hS hl => lv_iinc C.1 C.2.1 d hl hj hv hn h (fun ls' hl' => kk C H locs ls' hP hD hS hl')
end LawRows
theorem law_big {Ls j : Nat} (hL : Ls ≤ 256) (hj : j ≤ Ls) (h : Ls < j + 4) : Int32.ofNat Ls - 4 < nI j := by
  rw [Int32.lt_iff_toInt_lt, nI_toInt (by omega), show (Int32.ofNat Ls - 4 : Int32) = nI Ls - nI 4 from rfl, pk_sub_toInt (by omega) (by omega)]
  omega
def M_L : gM := (x, code, 4, ret, room_1)
def OpK (K : gK) (MX MM : gM) (Rl : va_W → va_W → Prop) (wx wm : va_W) (AX AM : List Value) : Prop := ∃ (r : Int32) (wx' wm' : va_W), Kd K MX AX wx (some (.int r)) wx' ∧ Kd K MM AM wm (some (.int r)) wm' ∧ Rl wx' wm'
def Lx (b x m : Nat) (i : Int32) : List (Nat × Value) := [(0, .ref b), (1, .ref x), (2, .ref m), (3, .int i)]

def LawOps (K : gK) (x m : Nat) (Rl : va_W → va_W → Prop) (wx wm : va_W) : Prop := (∃ fs wr, wx = (x, .inr (8, fs)) :: wr) ∧ (∃ fs wr, wm = (m, .inr (9, fs)) :: wr) ∧ (∀ p1 : Int32, OpK K M_X8_feed M_X9_feed Rl wx wm [.ref x, .int p1] [.ref m, .int p1]) ∧ (OpK K M_X8_train M_X9_train Rl wx wm [.ref x] [.ref m]) ∧ (OpK K M_X8_fault M_X9_fault Rl wx wm [.ref x] [.ref m]) ∧ (∀ p1 : Int32, OpK K M_X8_told M_X9_told Rl wx wm [.ref x, .int p1] [.ref m, .int p1]) ∧ (∀ p1 p2 : Int32, OpK K M_X8_car M_X9_car Rl wx wm [.ref x, .int p1, .int p2] [.ref m, .int p1, .int p2]) ∧ (∀ p1 p2 : Int32, OpK K M_X8_sleeper M_X9_sleeper Rl wx wm [.ref x, .int p1, .int p2] [.ref m, .int p1, .int p2]) ∧ (∀ p1 p2 : Int32, OpK K M_X8_interval M_X9_interval Rl wx wm [.ref x, .int p1, .int p2] [.ref m, .int p1, .int p2]) ∧ (∀ p1 p2 : Int32, OpK K M_X8_put M_X9_put Rl wx wm [.ref x, .int p1, .int p2] [.ref m, .int p1, .int p2]) ∧ (∀ p1 : Int32, OpK K M_X8_off M_X9_off Rl wx wm [.ref x, .int p1] [.ref m, .int p1]) ∧ (∀ p1 : Int32, OpK K M_X8_hour M_X9_hour Rl wx wm [.ref x, .int p1] [.ref m, .int p1]) ∧ (OpK K M_X8_evening M_X9_evening Rl wx wm [.ref x] [.ref m]) ∧ (∀ p1 : Int32, OpK K M_X8_drift M_X9_drift Rl wx wm [.ref x, .int p1] [.ref m, .int p1]) ∧ (OpK K M_X8_undo M_X9_undo Rl wx wm [.ref x] [.ref m]) ∧ (OpK K M_X8_wake M_X9_wake Rl wx wm [.ref x] [.ref m]) ∧ (∀ p1 : Int32, OpK K M_X8_shunted M_X9_shunted Rl wx wm [.ref x, .int p1] [.ref m, .int p1]) ∧ (∀ p1 : Int32, OpK K M_X8_madeUp M_X9_madeUp Rl wx wm [.ref x, .int p1] [.ref m, .int p1]) ∧ (∀ p1 : Int32, OpK K M_X8_moves M_X9_moves Rl wx wm [.ref x, .int p1] [.ref m, .int p1]) ∧ (∀ p1 p2 : Int32, OpK K M_X8_laws M_X9_laws Rl wx wm [.ref x, .int p1, .int p2] [.ref m, .int p1, .int p2]) ∧ (∀ p1 p2 p3 : Int32, OpK K M_X8_pitches M_X9_pitches Rl wx wm [.ref x, .int p1, .int p2, .int p3] [.ref m, .int p1, .int p2, .int p3]) ∧ (∀ p1 p2 : Int32, OpK K M_X8_bestCar M_X9_bestCar Rl wx wm [.ref x, .int p1, .int p2] [.ref m, .int p1, .int p2]) ∧ (∀ p1 p2 : Int32, OpK K M_X8_alike M_X9_alike Rl wx wm [.ref x, .int p1, .int p2] [.ref m, .int p1, .int p2]) ∧ (∀ p1 p2 p3 : Int32, OpK K M_X8_sounds M_X9_sounds Rl wx wm [.ref x, .int p1, .int p2, .int p3] [.ref m, .int p1, .int p2, .int p3]) ∧ (∀ p1 p2 : Int32, OpK K M_X8_cold M_X9_cold Rl wx wm [.ref x, .int p1, .int p2] [.ref m, .int p1, .int p2]) ∧ (∀ p1 p2 : Int32, OpK K M_X8_write M_X9_write Rl wx wm [.ref x, .int p1, .int (if p2 = 0 then 0 else 1)] [.ref m, .int p1, .int (if p2 = 0 then 0 else 1)]) ∧ (OpK K M_X8_tear M_X9_tear Rl wx wm [.ref x] [.ref m]) ∧ (OpK K M_X8_judge M_X9_judge Rl wx wm [.ref x] [.ref m]) ∧ (∀ p1 : Int32, OpK K M_X8_seed M_X9_seed Rl wx wm [.ref x, .int p1] [.ref m, .int p1]) ∧ (∀ p1 : Int32, OpK K M_X8_keep M_X9_keep Rl wx wm [.ref x, .int p1] [.ref m, .int p1]) ∧ (∀ p1 : Int32, OpK K M_X8_goBack M_X9_goBack Rl wx wm [.ref x, .int p1] [.ref m, .int p1])
set_option maxHeartbeats 4000000 in
theorem lc_0 {K : gK} {X : gX} {k n : Nat} {b x m Ls : Nat} {xs : Nat → Int32} {Rl : va_W → va_W → Prop} {wx wm : va_W} {i : Int32} (hk : k ≤ 600000 ∧ n ≤ 7302249) (hX : va_X b Ls xs (Xs X) (Xs X).heap) (hbl : b < (Xs X).heap.size) (hbA : ¬ XA X b) (h1 : vp_in (i + 1) Ls) (hx : ∃ fs wr, wx = (x, .inr (8, fs)) :: wr) (hm : ∃ fs wr, wm = (m, .inr (9, fs)) :: wr) (op : (∀ p1 : Int32, OpK K M_X8_feed M_X9_feed Rl wx wm [.ref x, .int p1] [.ref m, .int p1])) (next : ∀ wx' wm', Rl wx' wm' → Go K X M_L k n (wx' ++ wm') (Lx b x m i) 907 []) : Go K X M_L k n (wx ++ wm) (Lx b x m i) 164 [] := by
  obtain ⟨fx, rx, ex⟩ := hx
  obtain ⟨fm, rm, em⟩ := hm
  obtain ⟨r, wx1, wm1, kx, km, hR⟩ := op (xs (i + 1).toNatClampNeg)
  refine go_aload_n 1 dL_law_164 rfl rfl ?_
  refine go_aload_n 0 dL_law_165 rfl rfl ?_
  refine go_iload_n 3 dL_law_166 rfl rfl ?_
  refine go_iconst (v := (1 : Int32)) dL_law_167 (by decide) ?_
  refine go_iadd dL_law_168 ?_
  refine go_sld hX hbl hbA h1 dL_law_169 ?_
  refine go_callVL (wi := wx) (wr := wm) (As := [.int (xs (i + 1).toNatClampNeg)]) (rest := []) 8 hcX8 (by rw [ex]; rfl) kx ok_X8_feed ⟨Nat.le_of_ble_eq_true rfl, Nat.le_of_ble_eq_true rfl⟩ rfl rfl hk wd402 rfl rfl (Nat.le_of_ble_eq_true rfl) dL_law_170 ?_
  refine go_eq (pc' := 173) (st' := [.int r]) rfl rfl ?_
  refine go_aload_n 2 dL_law_173 rfl rfl ?_
  refine go_aload_n 0 dL_law_174 rfl rfl ?_
  refine go_iload_n 3 dL_law_175 rfl rfl ?_
  refine go_iconst (v := (1 : Int32)) dL_law_176 (by decide) ?_
  refine go_iadd dL_law_177 ?_
  refine go_sld hX hbl hbA h1 dL_law_178 ?_
  refine go_callVL (wi := wm) (wr := wx1) (As := [.int (xs (i + 1).toNatClampNeg)]) (rest := [.int r]) 9 hcX9 (by rw [em]; rfl) km ok_X9_feed ⟨Nat.le_of_ble_eq_true rfl, Nat.le_of_ble_eq_true rfl⟩ rfl rfl hk wd925 rfl rfl (Nat.le_of_ble_eq_true rfl) dL_law_179 ?_
  refine go_eq (pc' := 182) (st' := [.int r, .int r]) rfl rfl ?_
  refine go_icmp_eqP 907 dL_law_182 (by decide) ?_
  exact next _ _ hR
set_option maxHeartbeats 4000000 in
theorem lc_1 {K : gK} {X : gX} {k n : Nat} {b x m Ls : Nat} {xs : Nat → Int32} {Rl : va_W → va_W → Prop} {wx wm : va_W} {i : Int32} (hk : k ≤ 600000 ∧ n ≤ 7302249) (hX : va_X b Ls xs (Xs X) (Xs X).heap) (hbl : b < (Xs X).heap.size) (hbA : ¬ XA X b)  (hx : ∃ fs wr, wx = (x, .inr (8, fs)) :: wr) (hm : ∃ fs wr, wm = (m, .inr (9, fs)) :: wr) (op : (OpK K M_X8_train M_X9_train Rl wx wm [.ref x] [.ref m])) (next : ∀ wx' wm', Rl wx' wm' → Go K X M_L k n (wx' ++ wm') (Lx b x m i) 907 []) : Go K X M_L k n (wx ++ wm) (Lx b x m i) 187 [] := by
  obtain ⟨fx, rx, ex⟩ := hx
  obtain ⟨fm, rm, em⟩ := hm
  obtain ⟨r, wx1, wm1, kx, km, hR⟩ := op 
  refine go_aload_n 1 dL_law_187 rfl rfl ?_
  refine go_callVL (wi := wx) (wr := wm) (As := []) (rest := []) 8 hcX8 (by rw [ex]; rfl) kx ok_X8_train ⟨Nat.le_of_ble_eq_true rfl, Nat.le_of_ble_eq_true rfl⟩ rfl rfl hk wd415 rfl rfl (Nat.le_of_ble_eq_true rfl) dL_law_188 ?_
  refine go_eq (pc' := 191) (st' := [.int r]) rfl rfl ?_
  refine go_aload_n 2 dL_law_191 rfl rfl ?_
  refine go_callVL (wi := wm) (wr := wx1) (As := []) (rest := [.int r]) 9 hcX9 (by rw [em]; rfl) km ok_X9_train ⟨Nat.le_of_ble_eq_true rfl, Nat.le_of_ble_eq_true rfl⟩ rfl rfl hk wd934 rfl rfl (Nat.le_of_ble_eq_true rfl) dL_law_192 ?_
  refine go_eq (pc' := 195) (st' := [.int r, .int r]) rfl rfl ?_
  refine go_icmp_eqP 907 dL_law_195 (by decide) ?_
  exact next _ _ hR
set_option maxHeartbeats 4000000 in
theorem lc_2 {K : gK} {X : gX} {k n : Nat} {b x m Ls : Nat} {xs : Nat → Int32} {Rl : va_W → va_W → Prop} {wx wm : va_W} {i : Int32} (hk : k ≤ 600000 ∧ n ≤ 7302249) (hX : va_X b Ls xs (Xs X) (Xs X).heap) (hbl : b < (Xs X).heap.size) (hbA : ¬ XA X b)  (hx : ∃ fs wr, wx = (x, .inr (8, fs)) :: wr) (hm : ∃ fs wr, wm = (m, .inr (9, fs)) :: wr) (op : (OpK K M_X8_fault M_X9_fault Rl wx wm [.ref x] [.ref m])) (next : ∀ wx' wm', Rl wx' wm' → Go K X M_L k n (wx' ++ wm') (Lx b x m i) 907 []) : Go K X M_L k n (wx ++ wm) (Lx b x m i) 200 [] := by
  obtain ⟨fx, rx, ex⟩ := hx
  obtain ⟨fm, rm, em⟩ := hm
  obtain ⟨r, wx1, wm1, kx, km, hR⟩ := op 
  refine go_aload_n 1 dL_law_200 rfl rfl ?_
  refine go_callVL (wi := wx) (wr := wm) (As := []) (rest := []) 8 hcX8 (by rw [ex]; rfl) kx ok_X8_fault ⟨Nat.le_of_ble_eq_true rfl, Nat.le_of_ble_eq_true rfl⟩ rfl rfl hk wd500 rfl rfl (Nat.le_of_ble_eq_true rfl) dL_law_201 ?_
  refine go_eq (pc' := 204) (st' := [.int r]) rfl rfl ?_
  refine go_aload_n 2 dL_law_204 rfl rfl ?_
  refine go_callVL (wi := wm) (wr := wx1) (As := []) (rest := [.int r]) 9 hcX9 (by rw [em]; rfl) km ok_X9_fault ⟨Nat.le_of_ble_eq_true rfl, Nat.le_of_ble_eq_true rfl⟩ rfl rfl hk wd982 rfl rfl (Nat.le_of_ble_eq_true rfl) dL_law_205 ?_
  refine go_eq (pc' := 208) (st' := [.int r, .int r]) rfl rfl ?_
  refine go_icmp_eqP 907 dL_law_208 (by decide) ?_
  exact next _ _ hR
set_option maxHeartbeats 4000000 in
theorem lc_3 {K : gK} {X : gX} {k n : Nat} {b x m Ls : Nat} {xs : Nat → Int32} {Rl : va_W → va_W → Prop} {wx wm : va_W} {i : Int32} (hk : k ≤ 600000 ∧ n ≤ 7302249) (hX : va_X b Ls xs (Xs X) (Xs X).heap) (hbl : b < (Xs X).heap.size) (hbA : ¬ XA X b) (h1 : vp_in (i + 1) Ls) (hx : ∃ fs wr, wx = (x, .inr (8, fs)) :: wr) (hm : ∃ fs wr, wm = (m, .inr (9, fs)) :: wr) (op : (∀ p1 : Int32, OpK K M_X8_told M_X9_told Rl wx wm [.ref x, .int p1] [.ref m, .int p1])) (next : ∀ wx' wm', Rl wx' wm' → Go K X M_L k n (wx' ++ wm') (Lx b x m i) 907 []) : Go K X M_L k n (wx ++ wm) (Lx b x m i) 213 [] := by
  obtain ⟨fx, rx, ex⟩ := hx
  obtain ⟨fm, rm, em⟩ := hm
  obtain ⟨r, wx1, wm1, kx, km, hR⟩ := op (xs (i + 1).toNatClampNeg)
  refine go_aload_n 1 dL_law_213 rfl rfl ?_
  refine go_aload_n 0 dL_law_214 rfl rfl ?_
  refine go_iload_n 3 dL_law_215 rfl rfl ?_
  refine go_iconst (v := (1 : Int32)) dL_law_216 (by decide) ?_
  refine go_iadd dL_law_217 ?_
  refine go_sld hX hbl hbA h1 dL_law_218 ?_
  refine go_callVL (wi := wx) (wr := wm) (As := [.int (xs (i + 1).toNatClampNeg)]) (rest := []) 8 hcX8 (by rw [ex]; rfl) kx ok_X8_told ⟨Nat.le_of_ble_eq_true rfl, Nat.le_of_ble_eq_true rfl⟩ rfl rfl hk wd504 rfl rfl (Nat.le_of_ble_eq_true rfl) dL_law_219 ?_
  refine go_eq (pc' := 222) (st' := [.int r]) rfl rfl ?_
  refine go_aload_n 2 dL_law_222 rfl rfl ?_
  refine go_aload_n 0 dL_law_223 rfl rfl ?_
  refine go_iload_n 3 dL_law_224 rfl rfl ?_
  refine go_iconst (v := (1 : Int32)) dL_law_225 (by decide) ?_
  refine go_iadd dL_law_226 ?_
  refine go_sld hX hbl hbA h1 dL_law_227 ?_
  refine go_callVL (wi := wm) (wr := wx1) (As := [.int (xs (i + 1).toNatClampNeg)]) (rest := [.int r]) 9 hcX9 (by rw [em]; rfl) km ok_X9_told ⟨Nat.le_of_ble_eq_true rfl, Nat.le_of_ble_eq_true rfl⟩ rfl rfl hk wd986 rfl rfl (Nat.le_of_ble_eq_true rfl) dL_law_228 ?_
  refine go_eq (pc' := 231) (st' := [.int r, .int r]) rfl rfl ?_
  refine go_icmp_eqP 907 dL_law_231 (by decide) ?_
  exact next _ _ hR
set_option maxHeartbeats 4000000 in
theorem lc_4 {K : gK} {X : gX} {k n : Nat} {b x m Ls : Nat} {xs : Nat → Int32} {Rl : va_W → va_W → Prop} {wx wm : va_W} {i : Int32} (hk : k ≤ 600000 ∧ n ≤ 7302249) (hX : va_X b Ls xs (Xs X) (Xs X).heap) (hbl : b < (Xs X).heap.size) (hbA : ¬ XA X b) (h1 : vp_in (i + 1) Ls) (h2 : vp_in (i + 2) Ls) (hx : ∃ fs wr, wx = (x, .inr (8, fs)) :: wr) (hm : ∃ fs wr, wm = (m, .inr (9, fs)) :: wr) (op : (∀ p1 p2 : Int32, OpK K M_X8_car M_X9_car Rl wx wm [.ref x, .int p1, .int p2] [.ref m, .int p1, .int p2])) (next : ∀ wx' wm', Rl wx' wm' → Go K X M_L k n (wx' ++ wm') (Lx b x m i) 907 []) : Go K X M_L k n (wx ++ wm) (Lx b x m i) 236 [] := by
  obtain ⟨fx, rx, ex⟩ := hx
  obtain ⟨fm, rm, em⟩ := hm
  obtain ⟨r, wx1, wm1, kx, km, hR⟩ := op (xs (i + 1).toNatClampNeg) (xs (i + 2).toNatClampNeg)
  refine go_aload_n 1 dL_law_236 rfl rfl ?_
  refine go_aload_n 0 dL_law_237 rfl rfl ?_
  refine go_iload_n 3 dL_law_238 rfl rfl ?_
  refine go_iconst (v := (1 : Int32)) dL_law_239 (by decide) ?_
  refine go_iadd dL_law_240 ?_
  refine go_sld hX hbl hbA h1 dL_law_241 ?_
  refine go_aload_n 0 dL_law_242 rfl rfl ?_
  refine go_iload_n 3 dL_law_243 rfl rfl ?_
  refine go_iconst (v := (2 : Int32)) dL_law_244 (by decide) ?_
  refine go_iadd dL_law_245 ?_
  refine go_sld hX hbl hbA h2 dL_law_246 ?_
  refine go_callVL (wi := wx) (wr := wm) (As := [.int (xs (i + 1).toNatClampNeg), .int (xs (i + 2).toNatClampNeg)]) (rest := []) 8 hcX8 (by rw [ex]; rfl) kx ok_X8_car ⟨Nat.le_of_ble_eq_true rfl, Nat.le_of_ble_eq_true rfl⟩ rfl rfl hk wd516 rfl rfl (Nat.le_of_ble_eq_true rfl) dL_law_247 ?_
  refine go_eq (pc' := 250) (st' := [.int r]) rfl rfl ?_
  refine go_aload_n 2 dL_law_250 rfl rfl ?_
  refine go_aload_n 0 dL_law_251 rfl rfl ?_
  refine go_iload_n 3 dL_law_252 rfl rfl ?_
  refine go_iconst (v := (1 : Int32)) dL_law_253 (by decide) ?_
  refine go_iadd dL_law_254 ?_
  refine go_sld hX hbl hbA h1 dL_law_255 ?_
  refine go_aload_n 0 dL_law_256 rfl rfl ?_
  refine go_iload_n 3 dL_law_257 rfl rfl ?_
  refine go_iconst (v := (2 : Int32)) dL_law_258 (by decide) ?_
  refine go_iadd dL_law_259 ?_
  refine go_sld hX hbl hbA h2 dL_law_260 ?_
  refine go_callVL (wi := wm) (wr := wx1) (As := [.int (xs (i + 1).toNatClampNeg), .int (xs (i + 2).toNatClampNeg)]) (rest := [.int r]) 9 hcX9 (by rw [em]; rfl) km ok_X9_car ⟨Nat.le_of_ble_eq_true rfl, Nat.le_of_ble_eq_true rfl⟩ rfl rfl hk wd994 rfl rfl (Nat.le_of_ble_eq_true rfl) dL_law_261 ?_
  refine go_eq (pc' := 264) (st' := [.int r, .int r]) rfl rfl ?_
  refine go_icmp_eqP 907 dL_law_264 (by decide) ?_
  exact next _ _ hR
set_option maxHeartbeats 4000000 in
theorem lc_5 {K : gK} {X : gX} {k n : Nat} {b x m Ls : Nat} {xs : Nat → Int32} {Rl : va_W → va_W → Prop} {wx wm : va_W} {i : Int32} (hk : k ≤ 600000 ∧ n ≤ 7302249) (hX : va_X b Ls xs (Xs X) (Xs X).heap) (hbl : b < (Xs X).heap.size) (hbA : ¬ XA X b) (h1 : vp_in (i + 1) Ls) (h2 : vp_in (i + 2) Ls) (hx : ∃ fs wr, wx = (x, .inr (8, fs)) :: wr) (hm : ∃ fs wr, wm = (m, .inr (9, fs)) :: wr) (op : (∀ p1 p2 : Int32, OpK K M_X8_sleeper M_X9_sleeper Rl wx wm [.ref x, .int p1, .int p2] [.ref m, .int p1, .int p2])) (next : ∀ wx' wm', Rl wx' wm' → Go K X M_L k n (wx' ++ wm') (Lx b x m i) 907 []) : Go K X M_L k n (wx ++ wm) (Lx b x m i) 269 [] := by
  obtain ⟨fx, rx, ex⟩ := hx
  obtain ⟨fm, rm, em⟩ := hm
  obtain ⟨r, wx1, wm1, kx, km, hR⟩ := op (xs (i + 1).toNatClampNeg) (xs (i + 2).toNatClampNeg)
  refine go_aload_n 1 dL_law_269 rfl rfl ?_
  refine go_aload_n 0 dL_law_270 rfl rfl ?_
  refine go_iload_n 3 dL_law_271 rfl rfl ?_
  refine go_iconst (v := (1 : Int32)) dL_law_272 (by decide) ?_
  refine go_iadd dL_law_273 ?_
  refine go_sld hX hbl hbA h1 dL_law_274 ?_
  refine go_aload_n 0 dL_law_275 rfl rfl ?_
  refine go_iload_n 3 dL_law_276 rfl rfl ?_
  refine go_iconst (v := (2 : Int32)) dL_law_277 (by decide) ?_
  refine go_iadd dL_law_278 ?_
  refine go_sld hX hbl hbA h2 dL_law_279 ?_
  refine go_callVL (wi := wx) (wr := wm) (As := [.int (xs (i + 1).toNatClampNeg), .int (xs (i + 2).toNatClampNeg)]) (rest := []) 8 hcX8 (by rw [ex]; rfl) kx ok_X8_sleeper ⟨Nat.le_of_ble_eq_true rfl, Nat.le_of_ble_eq_true rfl⟩ rfl rfl hk wd538 rfl rfl (Nat.le_of_ble_eq_true rfl) dL_law_280 ?_
  refine go_eq (pc' := 283) (st' := [.int r]) rfl rfl ?_
  refine go_aload_n 2 dL_law_283 rfl rfl ?_
  refine go_aload_n 0 dL_law_284 rfl rfl ?_
  refine go_iload_n 3 dL_law_285 rfl rfl ?_
  refine go_iconst (v := (1 : Int32)) dL_law_286 (by decide) ?_
  refine go_iadd dL_law_287 ?_
  refine go_sld hX hbl hbA h1 dL_law_288 ?_
  refine go_aload_n 0 dL_law_289 rfl rfl ?_
  refine go_iload_n 3 dL_law_290 rfl rfl ?_
  refine go_iconst (v := (2 : Int32)) dL_law_291 (by decide) ?_
  refine go_iadd dL_law_292 ?_
  refine go_sld hX hbl hbA h2 dL_law_293 ?_
  refine go_callVL (wi := wm) (wr := wx1) (As := [.int (xs (i + 1).toNatClampNeg), .int (xs (i + 2).toNatClampNeg)]) (rest := [.int r]) 9 hcX9 (by rw [em]; rfl) km ok_X9_sleeper ⟨Nat.le_of_ble_eq_true rfl, Nat.le_of_ble_eq_true rfl⟩ rfl rfl hk wd1025 rfl rfl (Nat.le_of_ble_eq_true rfl) dL_law_294 ?_
  refine go_eq (pc' := 297) (st' := [.int r, .int r]) rfl rfl ?_
  refine go_icmp_eqP 907 dL_law_297 (by decide) ?_
  exact next _ _ hR
set_option maxHeartbeats 4000000 in
theorem lc_6 {K : gK} {X : gX} {k n : Nat} {b x m Ls : Nat} {xs : Nat → Int32} {Rl : va_W → va_W → Prop} {wx wm : va_W} {i : Int32} (hk : k ≤ 600000 ∧ n ≤ 7302249) (hX : va_X b Ls xs (Xs X) (Xs X).heap) (hbl : b < (Xs X).heap.size) (hbA : ¬ XA X b) (h1 : vp_in (i + 1) Ls) (h2 : vp_in (i + 2) Ls) (hx : ∃ fs wr, wx = (x, .inr (8, fs)) :: wr) (hm : ∃ fs wr, wm = (m, .inr (9, fs)) :: wr) (op : (∀ p1 p2 : Int32, OpK K M_X8_interval M_X9_interval Rl wx wm [.ref x, .int p1, .int p2] [.ref m, .int p1, .int p2])) (next : ∀ wx' wm', Rl wx' wm' → Go K X M_L k n (wx' ++ wm') (Lx b x m i) 907 []) : Go K X M_L k n (wx ++ wm) (Lx b x m i) 302 [] := by
  obtain ⟨fx, rx, ex⟩ := hx
  obtain ⟨fm, rm, em⟩ := hm
  obtain ⟨r, wx1, wm1, kx, km, hR⟩ := op (xs (i + 1).toNatClampNeg) (xs (i + 2).toNatClampNeg)
  refine go_aload_n 1 dL_law_302 rfl rfl ?_
  refine go_aload_n 0 dL_law_303 rfl rfl ?_
  refine go_iload_n 3 dL_law_304 rfl rfl ?_
  refine go_iconst (v := (1 : Int32)) dL_law_305 (by decide) ?_
  refine go_iadd dL_law_306 ?_
  refine go_sld hX hbl hbA h1 dL_law_307 ?_
  refine go_aload_n 0 dL_law_308 rfl rfl ?_
  refine go_iload_n 3 dL_law_309 rfl rfl ?_
  refine go_iconst (v := (2 : Int32)) dL_law_310 (by decide) ?_
  refine go_iadd dL_law_311 ?_
  refine go_sld hX hbl hbA h2 dL_law_312 ?_
  refine go_callVL (wi := wx) (wr := wm) (As := [.int (xs (i + 1).toNatClampNeg), .int (xs (i + 2).toNatClampNeg)]) (rest := []) 8 hcX8 (by rw [ex]; rfl) kx ok_X8_interval ⟨Nat.le_of_ble_eq_true rfl, Nat.le_of_ble_eq_true rfl⟩ rfl rfl hk wd557 rfl rfl (Nat.le_of_ble_eq_true rfl) dL_law_313 ?_
  refine go_eq (pc' := 316) (st' := [.int r]) rfl rfl ?_
  refine go_aload_n 2 dL_law_316 rfl rfl ?_
  refine go_aload_n 0 dL_law_317 rfl rfl ?_
  refine go_iload_n 3 dL_law_318 rfl rfl ?_
  refine go_iconst (v := (1 : Int32)) dL_law_319 (by decide) ?_
  refine go_iadd dL_law_320 ?_
  refine go_sld hX hbl hbA h1 dL_law_321 ?_
  refine go_aload_n 0 dL_law_322 rfl rfl ?_
  refine go_iload_n 3 dL_law_323 rfl rfl ?_
  refine go_iconst (v := (2 : Int32)) dL_law_324 (by decide) ?_
  refine go_iadd dL_law_325 ?_
  refine go_sld hX hbl hbA h2 dL_law_326 ?_
  refine go_callVL (wi := wm) (wr := wx1) (As := [.int (xs (i + 1).toNatClampNeg), .int (xs (i + 2).toNatClampNeg)]) (rest := [.int r]) 9 hcX9 (by rw [em]; rfl) km ok_X9_interval ⟨Nat.le_of_ble_eq_true rfl, Nat.le_of_ble_eq_true rfl⟩ rfl rfl hk wd1037 rfl rfl (Nat.le_of_ble_eq_true rfl) dL_law_327 ?_
  refine go_eq (pc' := 330) (st' := [.int r, .int r]) rfl rfl ?_
  refine go_icmp_eqP 907 dL_law_330 (by decide) ?_
  exact next _ _ hR
set_option maxHeartbeats 4000000 in
theorem lc_7 {K : gK} {X : gX} {k n : Nat} {b x m Ls : Nat} {xs : Nat → Int32} {Rl : va_W → va_W → Prop} {wx wm : va_W} {i : Int32} (hk : k ≤ 600000 ∧ n ≤ 7302249) (hX : va_X b Ls xs (Xs X) (Xs X).heap) (hbl : b < (Xs X).heap.size) (hbA : ¬ XA X b) (h1 : vp_in (i + 1) Ls) (h2 : vp_in (i + 2) Ls) (hx : ∃ fs wr, wx = (x, .inr (8, fs)) :: wr) (hm : ∃ fs wr, wm = (m, .inr (9, fs)) :: wr) (op : (∀ p1 p2 : Int32, OpK K M_X8_put M_X9_put Rl wx wm [.ref x, .int p1, .int p2] [.ref m, .int p1, .int p2])) (next : ∀ wx' wm', Rl wx' wm' → Go K X M_L k n (wx' ++ wm') (Lx b x m i) 907 []) : Go K X M_L k n (wx ++ wm) (Lx b x m i) 335 [] := by
  obtain ⟨fx, rx, ex⟩ := hx
  obtain ⟨fm, rm, em⟩ := hm
  obtain ⟨r, wx1, wm1, kx, km, hR⟩ := op (xs (i + 1).toNatClampNeg) (xs (i + 2).toNatClampNeg)
  refine go_aload_n 1 dL_law_335 rfl rfl ?_
  refine go_aload_n 0 dL_law_336 rfl rfl ?_
  refine go_iload_n 3 dL_law_337 rfl rfl ?_
  refine go_iconst (v := (1 : Int32)) dL_law_338 (by decide) ?_
  refine go_iadd dL_law_339 ?_
  refine go_sld hX hbl hbA h1 dL_law_340 ?_
  refine go_aload_n 0 dL_law_341 rfl rfl ?_
  refine go_iload_n 3 dL_law_342 rfl rfl ?_
  refine go_iconst (v := (2 : Int32)) dL_law_343 (by decide) ?_
  refine go_iadd dL_law_344 ?_
  refine go_sld hX hbl hbA h2 dL_law_345 ?_
  refine go_callVL (wi := wx) (wr := wm) (As := [.int (xs (i + 1).toNatClampNeg), .int (xs (i + 2).toNatClampNeg)]) (rest := []) 8 hcX8 (by rw [ex]; rfl) kx ok_X8_put ⟨Nat.le_of_ble_eq_true rfl, Nat.le_of_ble_eq_true rfl⟩ rfl rfl hk wd562 rfl rfl (Nat.le_of_ble_eq_true rfl) dL_law_346 ?_
  refine go_eq (pc' := 349) (st' := [.int r]) rfl rfl ?_
  refine go_aload_n 2 dL_law_349 rfl rfl ?_
  refine go_aload_n 0 dL_law_350 rfl rfl ?_
  refine go_iload_n 3 dL_law_351 rfl rfl ?_
  refine go_iconst (v := (1 : Int32)) dL_law_352 (by decide) ?_
  refine go_iadd dL_law_353 ?_
  refine go_sld hX hbl hbA h1 dL_law_354 ?_
  refine go_aload_n 0 dL_law_355 rfl rfl ?_
  refine go_iload_n 3 dL_law_356 rfl rfl ?_
  refine go_iconst (v := (2 : Int32)) dL_law_357 (by decide) ?_
  refine go_iadd dL_law_358 ?_
  refine go_sld hX hbl hbA h2 dL_law_359 ?_
  refine go_callVL (wi := wm) (wr := wx1) (As := [.int (xs (i + 1).toNatClampNeg), .int (xs (i + 2).toNatClampNeg)]) (rest := [.int r]) 9 hcX9 (by rw [em]; rfl) km ok_X9_put ⟨Nat.le_of_ble_eq_true rfl, Nat.le_of_ble_eq_true rfl⟩ rfl rfl hk wd1041 rfl rfl (Nat.le_of_ble_eq_true rfl) dL_law_360 ?_
  refine go_eq (pc' := 363) (st' := [.int r, .int r]) rfl rfl ?_
  refine go_icmp_eqP 907 dL_law_363 (by decide) ?_
  exact next _ _ hR
set_option maxHeartbeats 4000000 in
theorem lc_8 {K : gK} {X : gX} {k n : Nat} {b x m Ls : Nat} {xs : Nat → Int32} {Rl : va_W → va_W → Prop} {wx wm : va_W} {i : Int32} (hk : k ≤ 600000 ∧ n ≤ 7302249) (hX : va_X b Ls xs (Xs X) (Xs X).heap) (hbl : b < (Xs X).heap.size) (hbA : ¬ XA X b) (h1 : vp_in (i + 1) Ls) (hx : ∃ fs wr, wx = (x, .inr (8, fs)) :: wr) (hm : ∃ fs wr, wm = (m, .inr (9, fs)) :: wr) (op : (∀ p1 : Int32, OpK K M_X8_off M_X9_off Rl wx wm [.ref x, .int p1] [.ref m, .int p1])) (next : ∀ wx' wm', Rl wx' wm' → Go K X M_L k n (wx' ++ wm') (Lx b x m i) 907 []) : Go K X M_L k n (wx ++ wm) (Lx b x m i) 368 [] := by
  obtain ⟨fx, rx, ex⟩ := hx
  obtain ⟨fm, rm, em⟩ := hm
  obtain ⟨r, wx1, wm1, kx, km, hR⟩ := op (xs (i + 1).toNatClampNeg)
  refine go_aload_n 1 dL_law_368 rfl rfl ?_
  refine go_aload_n 0 dL_law_369 rfl rfl ?_
  refine go_iload_n 3 dL_law_370 rfl rfl ?_
  refine go_iconst (v := (1 : Int32)) dL_law_371 (by decide) ?_
  refine go_iadd dL_law_372 ?_
  refine go_sld hX hbl hbA h1 dL_law_373 ?_
  refine go_callVL (wi := wx) (wr := wm) (As := [.int (xs (i + 1).toNatClampNeg)]) (rest := []) 8 hcX8 (by rw [ex]; rfl) kx ok_X8_off ⟨Nat.le_of_ble_eq_true rfl, Nat.le_of_ble_eq_true rfl⟩ rfl rfl hk wd590 rfl rfl (Nat.le_of_ble_eq_true rfl) dL_law_374 ?_
  refine go_eq (pc' := 377) (st' := [.int r]) rfl rfl ?_
  refine go_aload_n 2 dL_law_377 rfl rfl ?_
  refine go_aload_n 0 dL_law_378 rfl rfl ?_
  refine go_iload_n 3 dL_law_379 rfl rfl ?_
  refine go_iconst (v := (1 : Int32)) dL_law_380 (by decide) ?_
  refine go_iadd dL_law_381 ?_
  refine go_sld hX hbl hbA h1 dL_law_382 ?_
  refine go_callVL (wi := wm) (wr := wx1) (As := [.int (xs (i + 1).toNatClampNeg)]) (rest := [.int r]) 9 hcX9 (by rw [em]; rfl) km ok_X9_off ⟨Nat.le_of_ble_eq_true rfl, Nat.le_of_ble_eq_true rfl⟩ rfl rfl hk wd1056 rfl rfl (Nat.le_of_ble_eq_true rfl) dL_law_383 ?_
  refine go_eq (pc' := 386) (st' := [.int r, .int r]) rfl rfl ?_
  refine go_icmp_eqP 907 dL_law_386 (by decide) ?_
  exact next _ _ hR
set_option maxHeartbeats 4000000 in
theorem lc_9 {K : gK} {X : gX} {k n : Nat} {b x m Ls : Nat} {xs : Nat → Int32} {Rl : va_W → va_W → Prop} {wx wm : va_W} {i : Int32} (hk : k ≤ 600000 ∧ n ≤ 7302249) (hX : va_X b Ls xs (Xs X) (Xs X).heap) (hbl : b < (Xs X).heap.size) (hbA : ¬ XA X b) (h1 : vp_in (i + 1) Ls) (hx : ∃ fs wr, wx = (x, .inr (8, fs)) :: wr) (hm : ∃ fs wr, wm = (m, .inr (9, fs)) :: wr) (op : (∀ p1 : Int32, OpK K M_X8_hour M_X9_hour Rl wx wm [.ref x, .int p1] [.ref m, .int p1])) (next : ∀ wx' wm', Rl wx' wm' → Go K X M_L k n (wx' ++ wm') (Lx b x m i) 907 []) : Go K X M_L k n (wx ++ wm) (Lx b x m i) 391 [] := by
  obtain ⟨fx, rx, ex⟩ := hx
  obtain ⟨fm, rm, em⟩ := hm
  obtain ⟨r, wx1, wm1, kx, km, hR⟩ := op (xs (i + 1).toNatClampNeg)
  refine go_aload_n 1 dL_law_391 rfl rfl ?_
  refine go_aload_n 0 dL_law_392 rfl rfl ?_
  refine go_iload_n 3 dL_law_393 rfl rfl ?_
  refine go_iconst (v := (1 : Int32)) dL_law_394 (by decide) ?_
  refine go_iadd dL_law_395 ?_
  refine go_sld hX hbl hbA h1 dL_law_396 ?_
  refine go_callVL (wi := wx) (wr := wm) (As := [.int (xs (i + 1).toNatClampNeg)]) (rest := []) 8 hcX8 (by rw [ex]; rfl) kx ok_X8_hour ⟨Nat.le_of_ble_eq_true rfl, Nat.le_of_ble_eq_true rfl⟩ rfl rfl hk wd594 rfl rfl (Nat.le_of_ble_eq_true rfl) dL_law_397 ?_
  refine go_eq (pc' := 400) (st' := [.int r]) rfl rfl ?_
  refine go_aload_n 2 dL_law_400 rfl rfl ?_
  refine go_aload_n 0 dL_law_401 rfl rfl ?_
  refine go_iload_n 3 dL_law_402 rfl rfl ?_
  refine go_iconst (v := (1 : Int32)) dL_law_403 (by decide) ?_
  refine go_iadd dL_law_404 ?_
  refine go_sld hX hbl hbA h1 dL_law_405 ?_
  refine go_callVL (wi := wm) (wr := wx1) (As := [.int (xs (i + 1).toNatClampNeg)]) (rest := [.int r]) 9 hcX9 (by rw [em]; rfl) km ok_X9_hour ⟨Nat.le_of_ble_eq_true rfl, Nat.le_of_ble_eq_true rfl⟩ rfl rfl hk wd1060 rfl rfl (Nat.le_of_ble_eq_true rfl) dL_law_406 ?_
  refine go_eq (pc' := 409) (st' := [.int r, .int r]) rfl rfl ?_
  refine go_icmp_eqP 907 dL_law_409 (by decide) ?_
  exact next _ _ hR
set_option maxHeartbeats 4000000 in
theorem lc_10 {K : gK} {X : gX} {k n : Nat} {b x m Ls : Nat} {xs : Nat → Int32} {Rl : va_W → va_W → Prop} {wx wm : va_W} {i : Int32} (hk : k ≤ 600000 ∧ n ≤ 7302249) (hX : va_X b Ls xs (Xs X) (Xs X).heap) (hbl : b < (Xs X).heap.size) (hbA : ¬ XA X b)  (hx : ∃ fs wr, wx = (x, .inr (8, fs)) :: wr) (hm : ∃ fs wr, wm = (m, .inr (9, fs)) :: wr) (op : (OpK K M_X8_evening M_X9_evening Rl wx wm [.ref x] [.ref m])) (next : ∀ wx' wm', Rl wx' wm' → Go K X M_L k n (wx' ++ wm') (Lx b x m i) 907 []) : Go K X M_L k n (wx ++ wm) (Lx b x m i) 414 [] := by
  obtain ⟨fx, rx, ex⟩ := hx
  obtain ⟨fm, rm, em⟩ := hm
  obtain ⟨r, wx1, wm1, kx, km, hR⟩ := op 
  refine go_aload_n 1 dL_law_414 rfl rfl ?_
  refine go_callVL (wi := wx) (wr := wm) (As := []) (rest := []) 8 hcX8 (by rw [ex]; rfl) kx ok_X8_evening ⟨Nat.le_of_ble_eq_true rfl, Nat.le_of_ble_eq_true rfl⟩ rfl rfl hk wd612 rfl rfl (Nat.le_of_ble_eq_true rfl) dL_law_415 ?_
  refine go_eq (pc' := 418) (st' := [.int r]) rfl rfl ?_
  refine go_aload_n 2 dL_law_418 rfl rfl ?_
  refine go_callVL (wi := wm) (wr := wx1) (As := []) (rest := [.int r]) 9 hcX9 (by rw [em]; rfl) km ok_X9_evening ⟨Nat.le_of_ble_eq_true rfl, Nat.le_of_ble_eq_true rfl⟩ rfl rfl hk wd1068 rfl rfl (Nat.le_of_ble_eq_true rfl) dL_law_419 ?_
  refine go_eq (pc' := 422) (st' := [.int r, .int r]) rfl rfl ?_
  refine go_icmp_eqP 907 dL_law_422 (by decide) ?_
  exact next _ _ hR
set_option maxHeartbeats 4000000 in
theorem lc_11 {K : gK} {X : gX} {k n : Nat} {b x m Ls : Nat} {xs : Nat → Int32} {Rl : va_W → va_W → Prop} {wx wm : va_W} {i : Int32} (hk : k ≤ 600000 ∧ n ≤ 7302249) (hX : va_X b Ls xs (Xs X) (Xs X).heap) (hbl : b < (Xs X).heap.size) (hbA : ¬ XA X b) (h1 : vp_in (i + 1) Ls) (hx : ∃ fs wr, wx = (x, .inr (8, fs)) :: wr) (hm : ∃ fs wr, wm = (m, .inr (9, fs)) :: wr) (op : (∀ p1 : Int32, OpK K M_X8_drift M_X9_drift Rl wx wm [.ref x, .int p1] [.ref m, .int p1])) (next : ∀ wx' wm', Rl wx' wm' → Go K X M_L k n (wx' ++ wm') (Lx b x m i) 907 []) : Go K X M_L k n (wx ++ wm) (Lx b x m i) 427 [] := by
  obtain ⟨fx, rx, ex⟩ := hx
  obtain ⟨fm, rm, em⟩ := hm
  obtain ⟨r, wx1, wm1, kx, km, hR⟩ := op (xs (i + 1).toNatClampNeg)
  refine go_aload_n 1 dL_law_427 rfl rfl ?_
  refine go_aload_n 0 dL_law_428 rfl rfl ?_
  refine go_iload_n 3 dL_law_429 rfl rfl ?_
  refine go_iconst (v := (1 : Int32)) dL_law_430 (by decide) ?_
  refine go_iadd dL_law_431 ?_
  refine go_sld hX hbl hbA h1 dL_law_432 ?_
  refine go_callVL (wi := wx) (wr := wm) (As := [.int (xs (i + 1).toNatClampNeg)]) (rest := []) 8 hcX8 (by rw [ex]; rfl) kx ok_X8_drift ⟨Nat.le_of_ble_eq_true rfl, Nat.le_of_ble_eq_true rfl⟩ rfl rfl hk wd616 rfl rfl (Nat.le_of_ble_eq_true rfl) dL_law_433 ?_
  refine go_eq (pc' := 436) (st' := [.int r]) rfl rfl ?_
  refine go_aload_n 2 dL_law_436 rfl rfl ?_
  refine go_aload_n 0 dL_law_437 rfl rfl ?_
  refine go_iload_n 3 dL_law_438 rfl rfl ?_
  refine go_iconst (v := (1 : Int32)) dL_law_439 (by decide) ?_
  refine go_iadd dL_law_440 ?_
  refine go_sld hX hbl hbA h1 dL_law_441 ?_
  refine go_callVL (wi := wm) (wr := wx1) (As := [.int (xs (i + 1).toNatClampNeg)]) (rest := [.int r]) 9 hcX9 (by rw [em]; rfl) km ok_X9_drift ⟨Nat.le_of_ble_eq_true rfl, Nat.le_of_ble_eq_true rfl⟩ rfl rfl hk wd1072 rfl rfl (Nat.le_of_ble_eq_true rfl) dL_law_442 ?_
  refine go_eq (pc' := 445) (st' := [.int r, .int r]) rfl rfl ?_
  refine go_icmp_eqP 907 dL_law_445 (by decide) ?_
  exact next _ _ hR
set_option maxHeartbeats 4000000 in
theorem lc_12 {K : gK} {X : gX} {k n : Nat} {b x m Ls : Nat} {xs : Nat → Int32} {Rl : va_W → va_W → Prop} {wx wm : va_W} {i : Int32} (hk : k ≤ 600000 ∧ n ≤ 7302249) (hX : va_X b Ls xs (Xs X) (Xs X).heap) (hbl : b < (Xs X).heap.size) (hbA : ¬ XA X b)  (hx : ∃ fs wr, wx = (x, .inr (8, fs)) :: wr) (hm : ∃ fs wr, wm = (m, .inr (9, fs)) :: wr) (op : (OpK K M_X8_undo M_X9_undo Rl wx wm [.ref x] [.ref m])) (next : ∀ wx' wm', Rl wx' wm' → Go K X M_L k n (wx' ++ wm') (Lx b x m i) 907 []) : Go K X M_L k n (wx ++ wm) (Lx b x m i) 450 [] := by
  obtain ⟨fx, rx, ex⟩ := hx
  obtain ⟨fm, rm, em⟩ := hm
  obtain ⟨r, wx1, wm1, kx, km, hR⟩ := op 
  refine go_aload_n 1 dL_law_450 rfl rfl ?_
  refine go_callVL (wi := wx) (wr := wm) (As := []) (rest := []) 8 hcX8 (by rw [ex]; rfl) kx ok_X8_undo ⟨Nat.le_of_ble_eq_true rfl, Nat.le_of_ble_eq_true rfl⟩ rfl rfl hk wd628 rfl rfl (Nat.le_of_ble_eq_true rfl) dL_law_451 ?_
  refine go_eq (pc' := 454) (st' := [.int r]) rfl rfl ?_
  refine go_aload_n 2 dL_law_454 rfl rfl ?_
  refine go_callVL (wi := wm) (wr := wx1) (As := []) (rest := [.int r]) 9 hcX9 (by rw [em]; rfl) km ok_X9_undo ⟨Nat.le_of_ble_eq_true rfl, Nat.le_of_ble_eq_true rfl⟩ rfl rfl hk wd1084 rfl rfl (Nat.le_of_ble_eq_true rfl) dL_law_455 ?_
  refine go_eq (pc' := 458) (st' := [.int r, .int r]) rfl rfl ?_
  refine go_icmp_eqP 907 dL_law_458 (by decide) ?_
  exact next _ _ hR
set_option maxHeartbeats 4000000 in
theorem lc_13 {K : gK} {X : gX} {k n : Nat} {b x m Ls : Nat} {xs : Nat → Int32} {Rl : va_W → va_W → Prop} {wx wm : va_W} {i : Int32} (hk : k ≤ 600000 ∧ n ≤ 7302249) (hX : va_X b Ls xs (Xs X) (Xs X).heap) (hbl : b < (Xs X).heap.size) (hbA : ¬ XA X b)  (hx : ∃ fs wr, wx = (x, .inr (8, fs)) :: wr) (hm : ∃ fs wr, wm = (m, .inr (9, fs)) :: wr) (op : (OpK K M_X8_wake M_X9_wake Rl wx wm [.ref x] [.ref m])) (next : ∀ wx' wm', Rl wx' wm' → Go K X M_L k n (wx' ++ wm') (Lx b x m i) 907 []) : Go K X M_L k n (wx ++ wm) (Lx b x m i) 463 [] := by
  obtain ⟨fx, rx, ex⟩ := hx
  obtain ⟨fm, rm, em⟩ := hm
  obtain ⟨r, wx1, wm1, kx, km, hR⟩ := op 
  refine go_aload_n 1 dL_law_463 rfl rfl ?_
  refine go_callVL (wi := wx) (wr := wm) (As := []) (rest := []) 8 hcX8 (by rw [ex]; rfl) kx ok_X8_wake ⟨Nat.le_of_ble_eq_true rfl, Nat.le_of_ble_eq_true rfl⟩ rfl rfl hk wd636 rfl rfl (Nat.le_of_ble_eq_true rfl) dL_law_464 ?_
  refine go_eq (pc' := 467) (st' := [.int r]) rfl rfl ?_
  refine go_aload_n 2 dL_law_467 rfl rfl ?_
  refine go_callVL (wi := wm) (wr := wx1) (As := []) (rest := [.int r]) 9 hcX9 (by rw [em]; rfl) km ok_X9_wake ⟨Nat.le_of_ble_eq_true rfl, Nat.le_of_ble_eq_true rfl⟩ rfl rfl hk wd1088 rfl rfl (Nat.le_of_ble_eq_true rfl) dL_law_468 ?_
  refine go_eq (pc' := 471) (st' := [.int r, .int r]) rfl rfl ?_
  refine go_icmp_eqP 907 dL_law_471 (by decide) ?_
  exact next _ _ hR
set_option maxHeartbeats 4000000 in
theorem lc_14 {K : gK} {X : gX} {k n : Nat} {b x m Ls : Nat} {xs : Nat → Int32} {Rl : va_W → va_W → Prop} {wx wm : va_W} {i : Int32} (hk : k ≤ 600000 ∧ n ≤ 7302249) (hX : va_X b Ls xs (Xs X) (Xs X).heap) (hbl : b < (Xs X).heap.size) (hbA : ¬ XA X b) (h1 : vp_in (i + 1) Ls) (hx : ∃ fs wr, wx = (x, .inr (8, fs)) :: wr) (hm : ∃ fs wr, wm = (m, .inr (9, fs)) :: wr) (op : (∀ p1 : Int32, OpK K M_X8_shunted M_X9_shunted Rl wx wm [.ref x, .int p1] [.ref m, .int p1])) (next : ∀ wx' wm', Rl wx' wm' → Go K X M_L k n (wx' ++ wm') (Lx b x m i) 907 []) : Go K X M_L k n (wx ++ wm) (Lx b x m i) 476 [] := by
  obtain ⟨fx, rx, ex⟩ := hx
  obtain ⟨fm, rm, em⟩ := hm
  obtain ⟨r, wx1, wm1, kx, km, hR⟩ := op (xs (i + 1).toNatClampNeg)
  refine go_aload_n 1 dL_law_476 rfl rfl ?_
  refine go_aload_n 0 dL_law_477 rfl rfl ?_
  refine go_iload_n 3 dL_law_478 rfl rfl ?_
  refine go_iconst (v := (1 : Int32)) dL_law_479 (by decide) ?_
  refine go_iadd dL_law_480 ?_
  refine go_sld hX hbl hbA h1 dL_law_481 ?_
  refine go_callVL (wi := wx) (wr := wm) (As := [.int (xs (i + 1).toNatClampNeg)]) (rest := []) 8 hcX8 (by rw [ex]; rfl) kx ok_X8_shunted ⟨Nat.le_of_ble_eq_true rfl, Nat.le_of_ble_eq_true rfl⟩ rfl rfl hk wd648 rfl rfl (Nat.le_of_ble_eq_true rfl) dL_law_482 ?_
  refine go_eq (pc' := 485) (st' := [.int r]) rfl rfl ?_
  refine go_aload_n 2 dL_law_485 rfl rfl ?_
  refine go_aload_n 0 dL_law_486 rfl rfl ?_
  refine go_iload_n 3 dL_law_487 rfl rfl ?_
  refine go_iconst (v := (1 : Int32)) dL_law_488 (by decide) ?_
  refine go_iadd dL_law_489 ?_
  refine go_sld hX hbl hbA h1 dL_law_490 ?_
  refine go_callVL (wi := wm) (wr := wx1) (As := [.int (xs (i + 1).toNatClampNeg)]) (rest := [.int r]) 9 hcX9 (by rw [em]; rfl) km ok_X9_shunted ⟨Nat.le_of_ble_eq_true rfl, Nat.le_of_ble_eq_true rfl⟩ rfl rfl hk wd1100 rfl rfl (Nat.le_of_ble_eq_true rfl) dL_law_491 ?_
  refine go_eq (pc' := 494) (st' := [.int r, .int r]) rfl rfl ?_
  refine go_icmp_eqP 907 dL_law_494 (by decide) ?_
  exact next _ _ hR
set_option maxHeartbeats 4000000 in
theorem lc_15 {K : gK} {X : gX} {k n : Nat} {b x m Ls : Nat} {xs : Nat → Int32} {Rl : va_W → va_W → Prop} {wx wm : va_W} {i : Int32} (hk : k ≤ 600000 ∧ n ≤ 7302249) (hX : va_X b Ls xs (Xs X) (Xs X).heap) (hbl : b < (Xs X).heap.size) (hbA : ¬ XA X b) (h1 : vp_in (i + 1) Ls) (hx : ∃ fs wr, wx = (x, .inr (8, fs)) :: wr) (hm : ∃ fs wr, wm = (m, .inr (9, fs)) :: wr) (op : (∀ p1 : Int32, OpK K M_X8_madeUp M_X9_madeUp Rl wx wm [.ref x, .int p1] [.ref m, .int p1])) (next : ∀ wx' wm', Rl wx' wm' → Go K X M_L k n (wx' ++ wm') (Lx b x m i) 907 []) : Go K X M_L k n (wx ++ wm) (Lx b x m i) 499 [] := by
  obtain ⟨fx, rx, ex⟩ := hx
  obtain ⟨fm, rm, em⟩ := hm
  obtain ⟨r, wx1, wm1, kx, km, hR⟩ := op (xs (i + 1).toNatClampNeg)
  refine go_aload_n 1 dL_law_499 rfl rfl ?_
  refine go_aload_n 0 dL_law_500 rfl rfl ?_
  refine go_iload_n 3 dL_law_501 rfl rfl ?_
  refine go_iconst (v := (1 : Int32)) dL_law_502 (by decide) ?_
  refine go_iadd dL_law_503 ?_
  refine go_sld hX hbl hbA h1 dL_law_504 ?_
  refine go_callVL (wi := wx) (wr := wm) (As := [.int (xs (i + 1).toNatClampNeg)]) (rest := []) 8 hcX8 (by rw [ex]; rfl) kx ok_X8_madeUp ⟨Nat.le_of_ble_eq_true rfl, Nat.le_of_ble_eq_true rfl⟩ rfl rfl hk wd652 rfl rfl (Nat.le_of_ble_eq_true rfl) dL_law_505 ?_
  refine go_eq (pc' := 508) (st' := [.int r]) rfl rfl ?_
  refine go_aload_n 2 dL_law_508 rfl rfl ?_
  refine go_aload_n 0 dL_law_509 rfl rfl ?_
  refine go_iload_n 3 dL_law_510 rfl rfl ?_
  refine go_iconst (v := (1 : Int32)) dL_law_511 (by decide) ?_
  refine go_iadd dL_law_512 ?_
  refine go_sld hX hbl hbA h1 dL_law_513 ?_
  refine go_callVL (wi := wm) (wr := wx1) (As := [.int (xs (i + 1).toNatClampNeg)]) (rest := [.int r]) 9 hcX9 (by rw [em]; rfl) km ok_X9_madeUp ⟨Nat.le_of_ble_eq_true rfl, Nat.le_of_ble_eq_true rfl⟩ rfl rfl hk wd1104 rfl rfl (Nat.le_of_ble_eq_true rfl) dL_law_514 ?_
  refine go_eq (pc' := 517) (st' := [.int r, .int r]) rfl rfl ?_
  refine go_icmp_eqP 907 dL_law_517 (by decide) ?_
  exact next _ _ hR
set_option maxHeartbeats 4000000 in
theorem lc_16 {K : gK} {X : gX} {k n : Nat} {b x m Ls : Nat} {xs : Nat → Int32} {Rl : va_W → va_W → Prop} {wx wm : va_W} {i : Int32} (hk : k ≤ 600000 ∧ n ≤ 7302249) (hX : va_X b Ls xs (Xs X) (Xs X).heap) (hbl : b < (Xs X).heap.size) (hbA : ¬ XA X b) (h1 : vp_in (i + 1) Ls) (hx : ∃ fs wr, wx = (x, .inr (8, fs)) :: wr) (hm : ∃ fs wr, wm = (m, .inr (9, fs)) :: wr) (op : (∀ p1 : Int32, OpK K M_X8_moves M_X9_moves Rl wx wm [.ref x, .int p1] [.ref m, .int p1])) (next : ∀ wx' wm', Rl wx' wm' → Go K X M_L k n (wx' ++ wm') (Lx b x m i) 907 []) : Go K X M_L k n (wx ++ wm) (Lx b x m i) 522 [] := by
  obtain ⟨fx, rx, ex⟩ := hx
  obtain ⟨fm, rm, em⟩ := hm
  obtain ⟨r, wx1, wm1, kx, km, hR⟩ := op (xs (i + 1).toNatClampNeg)
  refine go_aload_n 1 dL_law_522 rfl rfl ?_
  refine go_aload_n 0 dL_law_523 rfl rfl ?_
  refine go_iload_n 3 dL_law_524 rfl rfl ?_
  refine go_iconst (v := (1 : Int32)) dL_law_525 (by decide) ?_
  refine go_iadd dL_law_526 ?_
  refine go_sld hX hbl hbA h1 dL_law_527 ?_
  refine go_callVL (wi := wx) (wr := wm) (As := [.int (xs (i + 1).toNatClampNeg)]) (rest := []) 8 hcX8 (by rw [ex]; rfl) kx ok_X8_moves ⟨Nat.le_of_ble_eq_true rfl, Nat.le_of_ble_eq_true rfl⟩ rfl rfl hk wd682 rfl rfl (Nat.le_of_ble_eq_true rfl) dL_law_528 ?_
  refine go_eq (pc' := 531) (st' := [.int r]) rfl rfl ?_
  refine go_aload_n 2 dL_law_531 rfl rfl ?_
  refine go_aload_n 0 dL_law_532 rfl rfl ?_
  refine go_iload_n 3 dL_law_533 rfl rfl ?_
  refine go_iconst (v := (1 : Int32)) dL_law_534 (by decide) ?_
  refine go_iadd dL_law_535 ?_
  refine go_sld hX hbl hbA h1 dL_law_536 ?_
  refine go_callVL (wi := wm) (wr := wx1) (As := [.int (xs (i + 1).toNatClampNeg)]) (rest := [.int r]) 9 hcX9 (by rw [em]; rfl) km ok_X9_moves ⟨Nat.le_of_ble_eq_true rfl, Nat.le_of_ble_eq_true rfl⟩ rfl rfl hk wd1112 rfl rfl (Nat.le_of_ble_eq_true rfl) dL_law_537 ?_
  refine go_eq (pc' := 540) (st' := [.int r, .int r]) rfl rfl ?_
  refine go_icmp_eqP 907 dL_law_540 (by decide) ?_
  exact next _ _ hR
set_option maxHeartbeats 4000000 in
theorem lc_17 {K : gK} {X : gX} {k n : Nat} {b x m Ls : Nat} {xs : Nat → Int32} {Rl : va_W → va_W → Prop} {wx wm : va_W} {i : Int32} (hk : k ≤ 600000 ∧ n ≤ 7302249) (hX : va_X b Ls xs (Xs X) (Xs X).heap) (hbl : b < (Xs X).heap.size) (hbA : ¬ XA X b) (h1 : vp_in (i + 1) Ls) (h2 : vp_in (i + 2) Ls) (hx : ∃ fs wr, wx = (x, .inr (8, fs)) :: wr) (hm : ∃ fs wr, wm = (m, .inr (9, fs)) :: wr) (op : (∀ p1 p2 : Int32, OpK K M_X8_laws M_X9_laws Rl wx wm [.ref x, .int p1, .int p2] [.ref m, .int p1, .int p2])) (next : ∀ wx' wm', Rl wx' wm' → Go K X M_L k n (wx' ++ wm') (Lx b x m i) 907 []) : Go K X M_L k n (wx ++ wm) (Lx b x m i) 545 [] := by
  obtain ⟨fx, rx, ex⟩ := hx
  obtain ⟨fm, rm, em⟩ := hm
  obtain ⟨r, wx1, wm1, kx, km, hR⟩ := op (xs (i + 1).toNatClampNeg) (xs (i + 2).toNatClampNeg)
  refine go_aload_n 1 dL_law_545 rfl rfl ?_
  refine go_aload_n 0 dL_law_546 rfl rfl ?_
  refine go_iload_n 3 dL_law_547 rfl rfl ?_
  refine go_iconst (v := (1 : Int32)) dL_law_548 (by decide) ?_
  refine go_iadd dL_law_549 ?_
  refine go_sld hX hbl hbA h1 dL_law_550 ?_
  refine go_aload_n 0 dL_law_551 rfl rfl ?_
  refine go_iload_n 3 dL_law_552 rfl rfl ?_
  refine go_iconst (v := (2 : Int32)) dL_law_553 (by decide) ?_
  refine go_iadd dL_law_554 ?_
  refine go_sld hX hbl hbA h2 dL_law_555 ?_
  refine go_callVL (wi := wx) (wr := wm) (As := [.int (xs (i + 1).toNatClampNeg), .int (xs (i + 2).toNatClampNeg)]) (rest := []) 8 hcX8 (by rw [ex]; rfl) kx ok_X8_laws ⟨Nat.le_of_ble_eq_true rfl, Nat.le_of_ble_eq_true rfl⟩ rfl rfl hk wd718 rfl rfl (Nat.le_of_ble_eq_true rfl) dL_law_556 ?_
  refine go_eq (pc' := 559) (st' := [.int r]) rfl rfl ?_
  refine go_aload_n 2 dL_law_559 rfl rfl ?_
  refine go_aload_n 0 dL_law_560 rfl rfl ?_
  refine go_iload_n 3 dL_law_561 rfl rfl ?_
  refine go_iconst (v := (1 : Int32)) dL_law_562 (by decide) ?_
  refine go_iadd dL_law_563 ?_
  refine go_sld hX hbl hbA h1 dL_law_564 ?_
  refine go_aload_n 0 dL_law_565 rfl rfl ?_
  refine go_iload_n 3 dL_law_566 rfl rfl ?_
  refine go_iconst (v := (2 : Int32)) dL_law_567 (by decide) ?_
  refine go_iadd dL_law_568 ?_
  refine go_sld hX hbl hbA h2 dL_law_569 ?_
  refine go_callVL (wi := wm) (wr := wx1) (As := [.int (xs (i + 1).toNatClampNeg), .int (xs (i + 2).toNatClampNeg)]) (rest := [.int r]) 9 hcX9 (by rw [em]; rfl) km ok_X9_laws ⟨Nat.le_of_ble_eq_true rfl, Nat.le_of_ble_eq_true rfl⟩ rfl rfl hk wd1128 rfl rfl (Nat.le_of_ble_eq_true rfl) dL_law_570 ?_
  refine go_eq (pc' := 573) (st' := [.int r, .int r]) rfl rfl ?_
  refine go_icmp_eqP 907 dL_law_573 (by decide) ?_
  exact next _ _ hR
set_option maxHeartbeats 4000000 in
theorem lc_18 {K : gK} {X : gX} {k n : Nat} {b x m Ls : Nat} {xs : Nat → Int32} {Rl : va_W → va_W → Prop} {wx wm : va_W} {i : Int32} (hk : k ≤ 600000 ∧ n ≤ 7302249) (hX : va_X b Ls xs (Xs X) (Xs X).heap) (hbl : b < (Xs X).heap.size) (hbA : ¬ XA X b) (h1 : vp_in (i + 1) Ls) (h2 : vp_in (i + 2) Ls) (h3 : vp_in (i + 3) Ls) (hx : ∃ fs wr, wx = (x, .inr (8, fs)) :: wr) (hm : ∃ fs wr, wm = (m, .inr (9, fs)) :: wr) (op : (∀ p1 p2 p3 : Int32, OpK K M_X8_pitches M_X9_pitches Rl wx wm [.ref x, .int p1, .int p2, .int p3] [.ref m, .int p1, .int p2, .int p3])) (next : ∀ wx' wm', Rl wx' wm' → Go K X M_L k n (wx' ++ wm') (Lx b x m i) 907 []) : Go K X M_L k n (wx ++ wm) (Lx b x m i) 578 [] := by
  obtain ⟨fx, rx, ex⟩ := hx
  obtain ⟨fm, rm, em⟩ := hm
  obtain ⟨r, wx1, wm1, kx, km, hR⟩ := op (xs (i + 1).toNatClampNeg) (xs (i + 2).toNatClampNeg) (xs (i + 3).toNatClampNeg)
  refine go_aload_n 1 dL_law_578 rfl rfl ?_
  refine go_aload_n 0 dL_law_579 rfl rfl ?_
  refine go_iload_n 3 dL_law_580 rfl rfl ?_
  refine go_iconst (v := (1 : Int32)) dL_law_581 (by decide) ?_
  refine go_iadd dL_law_582 ?_
  refine go_sld hX hbl hbA h1 dL_law_583 ?_
  refine go_aload_n 0 dL_law_584 rfl rfl ?_
  refine go_iload_n 3 dL_law_585 rfl rfl ?_
  refine go_iconst (v := (2 : Int32)) dL_law_586 (by decide) ?_
  refine go_iadd dL_law_587 ?_
  refine go_sld hX hbl hbA h2 dL_law_588 ?_
  refine go_aload_n 0 dL_law_589 rfl rfl ?_
  refine go_iload_n 3 dL_law_590 rfl rfl ?_
  refine go_iconst (v := (3 : Int32)) dL_law_591 (by decide) ?_
  refine go_iadd dL_law_592 ?_
  refine go_sld hX hbl hbA h3 dL_law_593 ?_
  refine go_callVL (wi := wx) (wr := wm) (As := [.int (xs (i + 1).toNatClampNeg), .int (xs (i + 2).toNatClampNeg), .int (xs (i + 3).toNatClampNeg)]) (rest := []) 8 hcX8 (by rw [ex]; rfl) kx ok_X8_pitches ⟨Nat.le_of_ble_eq_true rfl, Nat.le_of_ble_eq_true rfl⟩ rfl rfl hk wd726 rfl rfl (Nat.le_of_ble_eq_true rfl) dL_law_594 ?_
  refine go_eq (pc' := 597) (st' := [.int r]) rfl rfl ?_
  refine go_aload_n 2 dL_law_597 rfl rfl ?_
  refine go_aload_n 0 dL_law_598 rfl rfl ?_
  refine go_iload_n 3 dL_law_599 rfl rfl ?_
  refine go_iconst (v := (1 : Int32)) dL_law_600 (by decide) ?_
  refine go_iadd dL_law_601 ?_
  refine go_sld hX hbl hbA h1 dL_law_602 ?_
  refine go_aload_n 0 dL_law_603 rfl rfl ?_
  refine go_iload_n 3 dL_law_604 rfl rfl ?_
  refine go_iconst (v := (2 : Int32)) dL_law_605 (by decide) ?_
  refine go_iadd dL_law_606 ?_
  refine go_sld hX hbl hbA h2 dL_law_607 ?_
  refine go_aload_n 0 dL_law_608 rfl rfl ?_
  refine go_iload_n 3 dL_law_609 rfl rfl ?_
  refine go_iconst (v := (3 : Int32)) dL_law_610 (by decide) ?_
  refine go_iadd dL_law_611 ?_
  refine go_sld hX hbl hbA h3 dL_law_612 ?_
  refine go_callVL (wi := wm) (wr := wx1) (As := [.int (xs (i + 1).toNatClampNeg), .int (xs (i + 2).toNatClampNeg), .int (xs (i + 3).toNatClampNeg)]) (rest := [.int r]) 9 hcX9 (by rw [em]; rfl) km ok_X9_pitches ⟨Nat.le_of_ble_eq_true rfl, Nat.le_of_ble_eq_true rfl⟩ rfl rfl hk wd1140 rfl rfl (Nat.le_of_ble_eq_true rfl) dL_law_613 ?_
  refine go_eq (pc' := 616) (st' := [.int r, .int r]) rfl rfl ?_
  refine go_icmp_eqP 907 dL_law_616 (by decide) ?_
  exact next _ _ hR
set_option maxHeartbeats 4000000 in
theorem lc_19 {K : gK} {X : gX} {k n : Nat} {b x m Ls : Nat} {xs : Nat → Int32} {Rl : va_W → va_W → Prop} {wx wm : va_W} {i : Int32} (hk : k ≤ 600000 ∧ n ≤ 7302249) (hX : va_X b Ls xs (Xs X) (Xs X).heap) (hbl : b < (Xs X).heap.size) (hbA : ¬ XA X b) (h1 : vp_in (i + 1) Ls) (h2 : vp_in (i + 2) Ls) (hx : ∃ fs wr, wx = (x, .inr (8, fs)) :: wr) (hm : ∃ fs wr, wm = (m, .inr (9, fs)) :: wr) (op : (∀ p1 p2 : Int32, OpK K M_X8_bestCar M_X9_bestCar Rl wx wm [.ref x, .int p1, .int p2] [.ref m, .int p1, .int p2])) (next : ∀ wx' wm', Rl wx' wm' → Go K X M_L k n (wx' ++ wm') (Lx b x m i) 907 []) : Go K X M_L k n (wx ++ wm) (Lx b x m i) 621 [] := by
  obtain ⟨fx, rx, ex⟩ := hx
  obtain ⟨fm, rm, em⟩ := hm
  obtain ⟨r, wx1, wm1, kx, km, hR⟩ := op (xs (i + 1).toNatClampNeg) (xs (i + 2).toNatClampNeg)
  refine go_aload_n 1 dL_law_621 rfl rfl ?_
  refine go_aload_n 0 dL_law_622 rfl rfl ?_
  refine go_iload_n 3 dL_law_623 rfl rfl ?_
  refine go_iconst (v := (1 : Int32)) dL_law_624 (by decide) ?_
  refine go_iadd dL_law_625 ?_
  refine go_sld hX hbl hbA h1 dL_law_626 ?_
  refine go_aload_n 0 dL_law_627 rfl rfl ?_
  refine go_iload_n 3 dL_law_628 rfl rfl ?_
  refine go_iconst (v := (2 : Int32)) dL_law_629 (by decide) ?_
  refine go_iadd dL_law_630 ?_
  refine go_sld hX hbl hbA h2 dL_law_631 ?_
  refine go_callVL (wi := wx) (wr := wm) (As := [.int (xs (i + 1).toNatClampNeg), .int (xs (i + 2).toNatClampNeg)]) (rest := []) 8 hcX8 (by rw [ex]; rfl) kx ok_X8_bestCar ⟨Nat.le_of_ble_eq_true rfl, Nat.le_of_ble_eq_true rfl⟩ rfl rfl hk wd738 rfl rfl (Nat.le_of_ble_eq_true rfl) dL_law_632 ?_
  refine go_eq (pc' := 635) (st' := [.int r]) rfl rfl ?_
  refine go_aload_n 2 dL_law_635 rfl rfl ?_
  refine go_aload_n 0 dL_law_636 rfl rfl ?_
  refine go_iload_n 3 dL_law_637 rfl rfl ?_
  refine go_iconst (v := (1 : Int32)) dL_law_638 (by decide) ?_
  refine go_iadd dL_law_639 ?_
  refine go_sld hX hbl hbA h1 dL_law_640 ?_
  refine go_aload_n 0 dL_law_641 rfl rfl ?_
  refine go_iload_n 3 dL_law_642 rfl rfl ?_
  refine go_iconst (v := (2 : Int32)) dL_law_643 (by decide) ?_
  refine go_iadd dL_law_644 ?_
  refine go_sld hX hbl hbA h2 dL_law_645 ?_
  refine go_callVL (wi := wm) (wr := wx1) (As := [.int (xs (i + 1).toNatClampNeg), .int (xs (i + 2).toNatClampNeg)]) (rest := [.int r]) 9 hcX9 (by rw [em]; rfl) km ok_X9_bestCar ⟨Nat.le_of_ble_eq_true rfl, Nat.le_of_ble_eq_true rfl⟩ rfl rfl hk wd1148 rfl rfl (Nat.le_of_ble_eq_true rfl) dL_law_646 ?_
  refine go_eq (pc' := 649) (st' := [.int r, .int r]) rfl rfl ?_
  refine go_icmp_eqP 907 dL_law_649 (by decide) ?_
  exact next _ _ hR
set_option maxHeartbeats 4000000 in
theorem lc_20 {K : gK} {X : gX} {k n : Nat} {b x m Ls : Nat} {xs : Nat → Int32} {Rl : va_W → va_W → Prop} {wx wm : va_W} {i : Int32} (hk : k ≤ 600000 ∧ n ≤ 7302249) (hX : va_X b Ls xs (Xs X) (Xs X).heap) (hbl : b < (Xs X).heap.size) (hbA : ¬ XA X b) (h1 : vp_in (i + 1) Ls) (h2 : vp_in (i + 2) Ls) (hx : ∃ fs wr, wx = (x, .inr (8, fs)) :: wr) (hm : ∃ fs wr, wm = (m, .inr (9, fs)) :: wr) (op : (∀ p1 p2 : Int32, OpK K M_X8_alike M_X9_alike Rl wx wm [.ref x, .int p1, .int p2] [.ref m, .int p1, .int p2])) (next : ∀ wx' wm', Rl wx' wm' → Go K X M_L k n (wx' ++ wm') (Lx b x m i) 907 []) : Go K X M_L k n (wx ++ wm) (Lx b x m i) 654 [] := by
  obtain ⟨fx, rx, ex⟩ := hx
  obtain ⟨fm, rm, em⟩ := hm
  obtain ⟨r, wx1, wm1, kx, km, hR⟩ := op (xs (i + 1).toNatClampNeg) (xs (i + 2).toNatClampNeg)
  refine go_aload_n 1 dL_law_654 rfl rfl ?_
  refine go_aload_n 0 dL_law_655 rfl rfl ?_
  refine go_iload_n 3 dL_law_656 rfl rfl ?_
  refine go_iconst (v := (1 : Int32)) dL_law_657 (by decide) ?_
  refine go_iadd dL_law_658 ?_
  refine go_sld hX hbl hbA h1 dL_law_659 ?_
  refine go_aload_n 0 dL_law_660 rfl rfl ?_
  refine go_iload_n 3 dL_law_661 rfl rfl ?_
  refine go_iconst (v := (2 : Int32)) dL_law_662 (by decide) ?_
  refine go_iadd dL_law_663 ?_
  refine go_sld hX hbl hbA h2 dL_law_664 ?_
  refine go_callVL (wi := wx) (wr := wm) (As := [.int (xs (i + 1).toNatClampNeg), .int (xs (i + 2).toNatClampNeg)]) (rest := []) 8 hcX8 (by rw [ex]; rfl) kx ok_X8_alike ⟨Nat.le_of_ble_eq_true rfl, Nat.le_of_ble_eq_true rfl⟩ rfl rfl hk wd748 rfl rfl (Nat.le_of_ble_eq_true rfl) dL_law_665 ?_
  refine go_eq (pc' := 668) (st' := [.int r]) rfl rfl ?_
  refine go_aload_n 2 dL_law_668 rfl rfl ?_
  refine go_aload_n 0 dL_law_669 rfl rfl ?_
  refine go_iload_n 3 dL_law_670 rfl rfl ?_
  refine go_iconst (v := (1 : Int32)) dL_law_671 (by decide) ?_
  refine go_iadd dL_law_672 ?_
  refine go_sld hX hbl hbA h1 dL_law_673 ?_
  refine go_aload_n 0 dL_law_674 rfl rfl ?_
  refine go_iload_n 3 dL_law_675 rfl rfl ?_
  refine go_iconst (v := (2 : Int32)) dL_law_676 (by decide) ?_
  refine go_iadd dL_law_677 ?_
  refine go_sld hX hbl hbA h2 dL_law_678 ?_
  refine go_callVL (wi := wm) (wr := wx1) (As := [.int (xs (i + 1).toNatClampNeg), .int (xs (i + 2).toNatClampNeg)]) (rest := [.int r]) 9 hcX9 (by rw [em]; rfl) km ok_X9_alike ⟨Nat.le_of_ble_eq_true rfl, Nat.le_of_ble_eq_true rfl⟩ rfl rfl hk wd1152 rfl rfl (Nat.le_of_ble_eq_true rfl) dL_law_679 ?_
  refine go_eq (pc' := 682) (st' := [.int r, .int r]) rfl rfl ?_
  refine go_icmp_eqP 907 dL_law_682 (by decide) ?_
  exact next _ _ hR
set_option maxHeartbeats 4000000 in
theorem lc_21 {K : gK} {X : gX} {k n : Nat} {b x m Ls : Nat} {xs : Nat → Int32} {Rl : va_W → va_W → Prop} {wx wm : va_W} {i : Int32} (hk : k ≤ 600000 ∧ n ≤ 7302249) (hX : va_X b Ls xs (Xs X) (Xs X).heap) (hbl : b < (Xs X).heap.size) (hbA : ¬ XA X b) (h1 : vp_in (i + 1) Ls) (h2 : vp_in (i + 2) Ls) (h3 : vp_in (i + 3) Ls) (hx : ∃ fs wr, wx = (x, .inr (8, fs)) :: wr) (hm : ∃ fs wr, wm = (m, .inr (9, fs)) :: wr) (op : (∀ p1 p2 p3 : Int32, OpK K M_X8_sounds M_X9_sounds Rl wx wm [.ref x, .int p1, .int p2, .int p3] [.ref m, .int p1, .int p2, .int p3])) (next : ∀ wx' wm', Rl wx' wm' → Go K X M_L k n (wx' ++ wm') (Lx b x m i) 907 []) : Go K X M_L k n (wx ++ wm) (Lx b x m i) 687 [] := by
  obtain ⟨fx, rx, ex⟩ := hx
  obtain ⟨fm, rm, em⟩ := hm
  obtain ⟨r, wx1, wm1, kx, km, hR⟩ := op (xs (i + 1).toNatClampNeg) (xs (i + 2).toNatClampNeg) (xs (i + 3).toNatClampNeg)
  refine go_aload_n 1 dL_law_687 rfl rfl ?_
  refine go_aload_n 0 dL_law_688 rfl rfl ?_
  refine go_iload_n 3 dL_law_689 rfl rfl ?_
  refine go_iconst (v := (1 : Int32)) dL_law_690 (by decide) ?_
  refine go_iadd dL_law_691 ?_
  refine go_sld hX hbl hbA h1 dL_law_692 ?_
  refine go_aload_n 0 dL_law_693 rfl rfl ?_
  refine go_iload_n 3 dL_law_694 rfl rfl ?_
  refine go_iconst (v := (2 : Int32)) dL_law_695 (by decide) ?_
  refine go_iadd dL_law_696 ?_
  refine go_sld hX hbl hbA h2 dL_law_697 ?_
  refine go_aload_n 0 dL_law_698 rfl rfl ?_
  refine go_iload_n 3 dL_law_699 rfl rfl ?_
  refine go_iconst (v := (3 : Int32)) dL_law_700 (by decide) ?_
  refine go_iadd dL_law_701 ?_
  refine go_sld hX hbl hbA h3 dL_law_702 ?_
  refine go_callVL (wi := wx) (wr := wm) (As := [.int (xs (i + 1).toNatClampNeg), .int (xs (i + 2).toNatClampNeg), .int (xs (i + 3).toNatClampNeg)]) (rest := []) 8 hcX8 (by rw [ex]; rfl) kx ok_X8_sounds ⟨Nat.le_of_ble_eq_true rfl, Nat.le_of_ble_eq_true rfl⟩ rfl rfl hk wd760 rfl rfl (Nat.le_of_ble_eq_true rfl) dL_law_703 ?_
  refine go_eq (pc' := 706) (st' := [.int r]) rfl rfl ?_
  refine go_aload_n 2 dL_law_706 rfl rfl ?_
  refine go_aload_n 0 dL_law_707 rfl rfl ?_
  refine go_iload_n 3 dL_law_708 rfl rfl ?_
  refine go_iconst (v := (1 : Int32)) dL_law_709 (by decide) ?_
  refine go_iadd dL_law_710 ?_
  refine go_sld hX hbl hbA h1 dL_law_711 ?_
  refine go_aload_n 0 dL_law_712 rfl rfl ?_
  refine go_iload_n 3 dL_law_713 rfl rfl ?_
  refine go_iconst (v := (2 : Int32)) dL_law_714 (by decide) ?_
  refine go_iadd dL_law_715 ?_
  refine go_sld hX hbl hbA h2 dL_law_716 ?_
  refine go_aload_n 0 dL_law_717 rfl rfl ?_
  refine go_iload_n 3 dL_law_718 rfl rfl ?_
  refine go_iconst (v := (3 : Int32)) dL_law_719 (by decide) ?_
  refine go_iadd dL_law_720 ?_
  refine go_sld hX hbl hbA h3 dL_law_721 ?_
  refine go_callVL (wi := wm) (wr := wx1) (As := [.int (xs (i + 1).toNatClampNeg), .int (xs (i + 2).toNatClampNeg), .int (xs (i + 3).toNatClampNeg)]) (rest := [.int r]) 9 hcX9 (by rw [em]; rfl) km ok_X9_sounds ⟨Nat.le_of_ble_eq_true rfl, Nat.le_of_ble_eq_true rfl⟩ rfl rfl hk wd1156 rfl rfl (Nat.le_of_ble_eq_true rfl) dL_law_722 ?_
  refine go_eq (pc' := 725) (st' := [.int r, .int r]) rfl rfl ?_
  refine go_icmp_eqP 907 dL_law_725 (by decide) ?_
  exact next _ _ hR
set_option maxHeartbeats 4000000 in
theorem lc_22 {K : gK} {X : gX} {k n : Nat} {b x m Ls : Nat} {xs : Nat → Int32} {Rl : va_W → va_W → Prop} {wx wm : va_W} {i : Int32} (hk : k ≤ 600000 ∧ n ≤ 7302249) (hX : va_X b Ls xs (Xs X) (Xs X).heap) (hbl : b < (Xs X).heap.size) (hbA : ¬ XA X b) (h1 : vp_in (i + 1) Ls) (h2 : vp_in (i + 2) Ls) (hx : ∃ fs wr, wx = (x, .inr (8, fs)) :: wr) (hm : ∃ fs wr, wm = (m, .inr (9, fs)) :: wr) (op : (∀ p1 p2 : Int32, OpK K M_X8_cold M_X9_cold Rl wx wm [.ref x, .int p1, .int p2] [.ref m, .int p1, .int p2])) (next : ∀ wx' wm', Rl wx' wm' → Go K X M_L k n (wx' ++ wm') (Lx b x m i) 907 []) : Go K X M_L k n (wx ++ wm) (Lx b x m i) 730 [] := by
  obtain ⟨fx, rx, ex⟩ := hx
  obtain ⟨fm, rm, em⟩ := hm
  obtain ⟨r, wx1, wm1, kx, km, hR⟩ := op (xs (i + 1).toNatClampNeg) (xs (i + 2).toNatClampNeg)
  refine go_aload_n 1 dL_law_730 rfl rfl ?_
  refine go_aload_n 0 dL_law_731 rfl rfl ?_
  refine go_iload_n 3 dL_law_732 rfl rfl ?_
  refine go_iconst (v := (1 : Int32)) dL_law_733 (by decide) ?_
  refine go_iadd dL_law_734 ?_
  refine go_sld hX hbl hbA h1 dL_law_735 ?_
  refine go_aload_n 0 dL_law_736 rfl rfl ?_
  refine go_iload_n 3 dL_law_737 rfl rfl ?_
  refine go_iconst (v := (2 : Int32)) dL_law_738 (by decide) ?_
  refine go_iadd dL_law_739 ?_
  refine go_sld hX hbl hbA h2 dL_law_740 ?_
  refine go_callVL (wi := wx) (wr := wm) (As := [.int (xs (i + 1).toNatClampNeg), .int (xs (i + 2).toNatClampNeg)]) (rest := []) 8 hcX8 (by rw [ex]; rfl) kx ok_X8_cold ⟨Nat.le_of_ble_eq_true rfl, Nat.le_of_ble_eq_true rfl⟩ rfl rfl hk wd772 rfl rfl (Nat.le_of_ble_eq_true rfl) dL_law_741 ?_
  refine go_eq (pc' := 744) (st' := [.int r]) rfl rfl ?_
  refine go_aload_n 2 dL_law_744 rfl rfl ?_
  refine go_aload_n 0 dL_law_745 rfl rfl ?_
  refine go_iload_n 3 dL_law_746 rfl rfl ?_
  refine go_iconst (v := (1 : Int32)) dL_law_747 (by decide) ?_
  refine go_iadd dL_law_748 ?_
  refine go_sld hX hbl hbA h1 dL_law_749 ?_
  refine go_aload_n 0 dL_law_750 rfl rfl ?_
  refine go_iload_n 3 dL_law_751 rfl rfl ?_
  refine go_iconst (v := (2 : Int32)) dL_law_752 (by decide) ?_
  refine go_iadd dL_law_753 ?_
  refine go_sld hX hbl hbA h2 dL_law_754 ?_
  refine go_callVL (wi := wm) (wr := wx1) (As := [.int (xs (i + 1).toNatClampNeg), .int (xs (i + 2).toNatClampNeg)]) (rest := [.int r]) 9 hcX9 (by rw [em]; rfl) km ok_X9_cold ⟨Nat.le_of_ble_eq_true rfl, Nat.le_of_ble_eq_true rfl⟩ rfl rfl hk wd1160 rfl rfl (Nat.le_of_ble_eq_true rfl) dL_law_755 ?_
  refine go_eq (pc' := 758) (st' := [.int r, .int r]) rfl rfl ?_
  refine go_icmp_eqP 907 dL_law_758 (by decide) ?_
  exact next _ _ hR
set_option maxHeartbeats 4000000 in
theorem lc_23 {K : gK} {X : gX} {k n : Nat} {b x m Ls : Nat} {xs : Nat → Int32} {Rl : va_W → va_W → Prop} {wx wm : va_W} {i : Int32} (hk : k ≤ 600000 ∧ n ≤ 7302249) (hX : va_X b Ls xs (Xs X) (Xs X).heap) (hbl : b < (Xs X).heap.size) (hbA : ¬ XA X b) (h1 : vp_in (i + 1) Ls) (h2 : vp_in (i + 2) Ls) (hx : ∃ fs wr, wx = (x, .inr (8, fs)) :: wr) (hm : ∃ fs wr, wm = (m, .inr (9, fs)) :: wr) (op : (∀ p1 p2 : Int32, OpK K M_X8_write M_X9_write Rl wx wm [.ref x, .int p1, .int (if p2 = 0 then 0 else 1)] [.ref m, .int p1, .int (if p2 = 0 then 0 else 1)])) (next : ∀ wx' wm', Rl wx' wm' → Go K X M_L k n (wx' ++ wm') (Lx b x m i) 907 []) : Go K X M_L k n (wx ++ wm) (Lx b x m i) 763 [] := by
  obtain ⟨fx, rx, ex⟩ := hx
  obtain ⟨fm, rm, em⟩ := hm
  obtain ⟨r, wx1, wm1, kx, km, hR⟩ := op (xs (i + 1).toNatClampNeg) (xs (i + 2).toNatClampNeg)
  refine go_aload_n 1 dL_law_763 rfl rfl ?_
  refine go_aload_n 0 dL_law_764 rfl rfl ?_
  refine go_iload_n 3 dL_law_765 rfl rfl ?_
  refine go_iconst (v := (1 : Int32)) dL_law_766 (by decide) ?_
  refine go_iadd dL_law_767 ?_
  refine go_sld hX hbl hbA h1 dL_law_768 ?_
  refine go_aload_n 0 dL_law_769 rfl rfl ?_
  refine go_iload_n 3 dL_law_770 rfl rfl ?_
  refine go_iconst (v := (2 : Int32)) dL_law_771 (by decide) ?_
  refine go_iadd dL_law_772 ?_
  refine go_sld hX hbl hbA h2 dL_law_773 ?_
  refine go_if_eqP 781 dL_law_774 (by decide) (fun e0 => ?_) (fun e0 => ?_)
  · rw [if_pos e0] at kx km
    refine go_iconst (v := (0 : Int32)) dL_law_781 (by decide) ?_
    refine go_callVL (wi := wx) (wr := wm) (As := [.int (xs (i + 1).toNatClampNeg), .int (0 : Int32)]) (rest := []) 8 hcX8 (by rw [ex]; rfl) kx ok_X8_write ⟨Nat.le_of_ble_eq_true rfl, Nat.le_of_ble_eq_true rfl⟩ rfl rfl hk wd778 rfl rfl (Nat.le_of_ble_eq_true rfl) dL_law_782 ?_
    refine go_eq (pc' := 785) (st' := [.int r]) rfl rfl ?_
    refine go_aload_n 2 dL_law_785 rfl rfl ?_
    refine go_aload_n 0 dL_law_786 rfl rfl ?_
    refine go_iload_n 3 dL_law_787 rfl rfl ?_
    refine go_iconst (v := (1 : Int32)) dL_law_788 (by decide) ?_
    refine go_iadd dL_law_789 ?_
    refine go_sld hX hbl hbA h1 dL_law_790 ?_
    refine go_aload_n 0 dL_law_791 rfl rfl ?_
    refine go_iload_n 3 dL_law_792 rfl rfl ?_
    refine go_iconst (v := (2 : Int32)) dL_law_793 (by decide) ?_
    refine go_iadd dL_law_794 ?_
    refine go_sld hX hbl hbA h2 dL_law_795 ?_
    refine go_if_eqP 803 dL_law_796 (by decide) (fun e1 => ?_) (fun e1 => ?_)
    · refine go_iconst (v := (0 : Int32)) dL_law_803 (by decide) ?_
      refine go_callVL (wi := wm) (wr := wx1) (As := [.int (xs (i + 1).toNatClampNeg), .int (0 : Int32)]) (rest := [.int r]) 9 hcX9 (by rw [em]; rfl) km ok_X9_write ⟨Nat.le_of_ble_eq_true rfl, Nat.le_of_ble_eq_true rfl⟩ rfl rfl hk wd1166 rfl rfl (Nat.le_of_ble_eq_true rfl) dL_law_804 ?_
      refine go_eq (pc' := 807) (st' := [.int r, .int r]) rfl rfl ?_
      refine go_icmp_eqP 907 dL_law_807 (by decide) ?_
      exact next _ _ hR
    · exact absurd e0 e1
  · rw [if_neg e0] at kx km
    refine go_iconst (v := (1 : Int32)) dL_law_777 (by decide) ?_
    refine go_goto 782 dL_law_778 (by decide) ?_
    refine go_callVL (wi := wx) (wr := wm) (As := [.int (xs (i + 1).toNatClampNeg), .int (1 : Int32)]) (rest := []) 8 hcX8 (by rw [ex]; rfl) kx ok_X8_write ⟨Nat.le_of_ble_eq_true rfl, Nat.le_of_ble_eq_true rfl⟩ rfl rfl hk wd778 rfl rfl (Nat.le_of_ble_eq_true rfl) dL_law_782 ?_
    refine go_eq (pc' := 785) (st' := [.int r]) rfl rfl ?_
    refine go_aload_n 2 dL_law_785 rfl rfl ?_
    refine go_aload_n 0 dL_law_786 rfl rfl ?_
    refine go_iload_n 3 dL_law_787 rfl rfl ?_
    refine go_iconst (v := (1 : Int32)) dL_law_788 (by decide) ?_
    refine go_iadd dL_law_789 ?_
    refine go_sld hX hbl hbA h1 dL_law_790 ?_
    refine go_aload_n 0 dL_law_791 rfl rfl ?_
    refine go_iload_n 3 dL_law_792 rfl rfl ?_
    refine go_iconst (v := (2 : Int32)) dL_law_793 (by decide) ?_
    refine go_iadd dL_law_794 ?_
    refine go_sld hX hbl hbA h2 dL_law_795 ?_
    refine go_if_eqP 803 dL_law_796 (by decide) (fun e1 => ?_) (fun e1 => ?_)
    · exact absurd e1 e0
    · refine go_iconst (v := (1 : Int32)) dL_law_799 (by decide) ?_
      refine go_goto 804 dL_law_800 (by decide) ?_
      refine go_callVL (wi := wm) (wr := wx1) (As := [.int (xs (i + 1).toNatClampNeg), .int (1 : Int32)]) (rest := [.int r]) 9 hcX9 (by rw [em]; rfl) km ok_X9_write ⟨Nat.le_of_ble_eq_true rfl, Nat.le_of_ble_eq_true rfl⟩ rfl rfl hk wd1166 rfl rfl (Nat.le_of_ble_eq_true rfl) dL_law_804 ?_
      refine go_eq (pc' := 807) (st' := [.int r, .int r]) rfl rfl ?_
      refine go_icmp_eqP 907 dL_law_807 (by decide) ?_
      exact next _ _ hR
set_option maxHeartbeats 4000000 in
theorem lc_24 {K : gK} {X : gX} {k n : Nat} {b x m Ls : Nat} {xs : Nat → Int32} {Rl : va_W → va_W → Prop} {wx wm : va_W} {i : Int32} (hk : k ≤ 600000 ∧ n ≤ 7302249) (hX : va_X b Ls xs (Xs X) (Xs X).heap) (hbl : b < (Xs X).heap.size) (hbA : ¬ XA X b)  (hx : ∃ fs wr, wx = (x, .inr (8, fs)) :: wr) (hm : ∃ fs wr, wm = (m, .inr (9, fs)) :: wr) (op : (OpK K M_X8_tear M_X9_tear Rl wx wm [.ref x] [.ref m])) (next : ∀ wx' wm', Rl wx' wm' → Go K X M_L k n (wx' ++ wm') (Lx b x m i) 907 []) : Go K X M_L k n (wx ++ wm) (Lx b x m i) 812 [] := by
  obtain ⟨fx, rx, ex⟩ := hx
  obtain ⟨fm, rm, em⟩ := hm
  obtain ⟨r, wx1, wm1, kx, km, hR⟩ := op 
  refine go_aload_n 1 dL_law_812 rfl rfl ?_
  refine go_callVL (wi := wx) (wr := wm) (As := []) (rest := []) 8 hcX8 (by rw [ex]; rfl) kx ok_X8_tear ⟨Nat.le_of_ble_eq_true rfl, Nat.le_of_ble_eq_true rfl⟩ rfl rfl hk wd782 rfl rfl (Nat.le_of_ble_eq_true rfl) dL_law_813 ?_
  refine go_eq (pc' := 816) (st' := [.int r]) rfl rfl ?_
  refine go_aload_n 2 dL_law_816 rfl rfl ?_
  refine go_callVL (wi := wm) (wr := wx1) (As := []) (rest := [.int r]) 9 hcX9 (by rw [em]; rfl) km ok_X9_tear ⟨Nat.le_of_ble_eq_true rfl, Nat.le_of_ble_eq_true rfl⟩ rfl rfl hk wd1170 rfl rfl (Nat.le_of_ble_eq_true rfl) dL_law_817 ?_
  refine go_eq (pc' := 820) (st' := [.int r, .int r]) rfl rfl ?_
  refine go_icmp_eqP 907 dL_law_820 (by decide) ?_
  exact next _ _ hR
set_option maxHeartbeats 4000000 in
theorem lc_25 {K : gK} {X : gX} {k n : Nat} {b x m Ls : Nat} {xs : Nat → Int32} {Rl : va_W → va_W → Prop} {wx wm : va_W} {i : Int32} (hk : k ≤ 600000 ∧ n ≤ 7302249) (hX : va_X b Ls xs (Xs X) (Xs X).heap) (hbl : b < (Xs X).heap.size) (hbA : ¬ XA X b)  (hx : ∃ fs wr, wx = (x, .inr (8, fs)) :: wr) (hm : ∃ fs wr, wm = (m, .inr (9, fs)) :: wr) (op : (OpK K M_X8_judge M_X9_judge Rl wx wm [.ref x] [.ref m])) (next : ∀ wx' wm', Rl wx' wm' → Go K X M_L k n (wx' ++ wm') (Lx b x m i) 907 []) : Go K X M_L k n (wx ++ wm) (Lx b x m i) 825 [] := by
  obtain ⟨fx, rx, ex⟩ := hx
  obtain ⟨fm, rm, em⟩ := hm
  obtain ⟨r, wx1, wm1, kx, km, hR⟩ := op 
  refine go_aload_n 1 dL_law_825 rfl rfl ?_
  refine go_callVL (wi := wx) (wr := wm) (As := []) (rest := []) 8 hcX8 (by rw [ex]; rfl) kx ok_X8_judge ⟨Nat.le_of_ble_eq_true rfl, Nat.le_of_ble_eq_true rfl⟩ rfl rfl hk wd786 rfl rfl (Nat.le_of_ble_eq_true rfl) dL_law_826 ?_
  refine go_eq (pc' := 829) (st' := [.int r]) rfl rfl ?_
  refine go_aload_n 2 dL_law_829 rfl rfl ?_
  refine go_callVL (wi := wm) (wr := wx1) (As := []) (rest := [.int r]) 9 hcX9 (by rw [em]; rfl) km ok_X9_judge ⟨Nat.le_of_ble_eq_true rfl, Nat.le_of_ble_eq_true rfl⟩ rfl rfl hk wd1174 rfl rfl (Nat.le_of_ble_eq_true rfl) dL_law_830 ?_
  refine go_eq (pc' := 833) (st' := [.int r, .int r]) rfl rfl ?_
  refine go_icmp_eqP 907 dL_law_833 (by decide) ?_
  exact next _ _ hR
set_option maxHeartbeats 4000000 in
theorem lc_26 {K : gK} {X : gX} {k n : Nat} {b x m Ls : Nat} {xs : Nat → Int32} {Rl : va_W → va_W → Prop} {wx wm : va_W} {i : Int32} (hk : k ≤ 600000 ∧ n ≤ 7302249) (hX : va_X b Ls xs (Xs X) (Xs X).heap) (hbl : b < (Xs X).heap.size) (hbA : ¬ XA X b) (h1 : vp_in (i + 1) Ls) (hx : ∃ fs wr, wx = (x, .inr (8, fs)) :: wr) (hm : ∃ fs wr, wm = (m, .inr (9, fs)) :: wr) (op : (∀ p1 : Int32, OpK K M_X8_seed M_X9_seed Rl wx wm [.ref x, .int p1] [.ref m, .int p1])) (next : ∀ wx' wm', Rl wx' wm' → Go K X M_L k n (wx' ++ wm') (Lx b x m i) 907 []) : Go K X M_L k n (wx ++ wm) (Lx b x m i) 838 [] := by
  obtain ⟨fx, rx, ex⟩ := hx
  obtain ⟨fm, rm, em⟩ := hm
  obtain ⟨r, wx1, wm1, kx, km, hR⟩ := op (xs (i + 1).toNatClampNeg)
  refine go_aload_n 1 dL_law_838 rfl rfl ?_
  refine go_aload_n 0 dL_law_839 rfl rfl ?_
  refine go_iload_n 3 dL_law_840 rfl rfl ?_
  refine go_iconst (v := (1 : Int32)) dL_law_841 (by decide) ?_
  refine go_iadd dL_law_842 ?_
  refine go_sld hX hbl hbA h1 dL_law_843 ?_
  refine go_callVL (wi := wx) (wr := wm) (As := [.int (xs (i + 1).toNatClampNeg)]) (rest := []) 8 hcX8 (by rw [ex]; rfl) kx ok_X8_seed ⟨Nat.le_of_ble_eq_true rfl, Nat.le_of_ble_eq_true rfl⟩ rfl rfl hk wd791 rfl rfl (Nat.le_of_ble_eq_true rfl) dL_law_844 ?_
  refine go_eq (pc' := 847) (st' := [.int r]) rfl rfl ?_
  refine go_aload_n 2 dL_law_847 rfl rfl ?_
  refine go_aload_n 0 dL_law_848 rfl rfl ?_
  refine go_iload_n 3 dL_law_849 rfl rfl ?_
  refine go_iconst (v := (1 : Int32)) dL_law_850 (by decide) ?_
  refine go_iadd dL_law_851 ?_
  refine go_sld hX hbl hbA h1 dL_law_852 ?_
  refine go_callVL (wi := wm) (wr := wx1) (As := [.int (xs (i + 1).toNatClampNeg)]) (rest := [.int r]) 9 hcX9 (by rw [em]; rfl) km ok_X9_seed ⟨Nat.le_of_ble_eq_true rfl, Nat.le_of_ble_eq_true rfl⟩ rfl rfl hk wd1178 rfl rfl (Nat.le_of_ble_eq_true rfl) dL_law_853 ?_
  refine go_eq (pc' := 856) (st' := [.int r, .int r]) rfl rfl ?_
  refine go_icmp_eqP 907 dL_law_856 (by decide) ?_
  exact next _ _ hR
set_option maxHeartbeats 4000000 in
theorem lc_27 {K : gK} {X : gX} {k n : Nat} {b x m Ls : Nat} {xs : Nat → Int32} {Rl : va_W → va_W → Prop} {wx wm : va_W} {i : Int32} (hk : k ≤ 600000 ∧ n ≤ 7302249) (hX : va_X b Ls xs (Xs X) (Xs X).heap) (hbl : b < (Xs X).heap.size) (hbA : ¬ XA X b) (h1 : vp_in (i + 1) Ls) (hx : ∃ fs wr, wx = (x, .inr (8, fs)) :: wr) (hm : ∃ fs wr, wm = (m, .inr (9, fs)) :: wr) (op : (∀ p1 : Int32, OpK K M_X8_keep M_X9_keep Rl wx wm [.ref x, .int p1] [.ref m, .int p1])) (next : ∀ wx' wm', Rl wx' wm' → Go K X M_L k n (wx' ++ wm') (Lx b x m i) 907 []) : Go K X M_L k n (wx ++ wm) (Lx b x m i) 861 [] := by
  obtain ⟨fx, rx, ex⟩ := hx
  obtain ⟨fm, rm, em⟩ := hm
  obtain ⟨r, wx1, wm1, kx, km, hR⟩ := op (xs (i + 1).toNatClampNeg)
  refine go_aload_n 1 dL_law_861 rfl rfl ?_
  refine go_aload_n 0 dL_law_862 rfl rfl ?_
  refine go_iload_n 3 dL_law_863 rfl rfl ?_
  refine go_iconst (v := (1 : Int32)) dL_law_864 (by decide) ?_
  refine go_iadd dL_law_865 ?_
  refine go_sld hX hbl hbA h1 dL_law_866 ?_
  refine go_callVL (wi := wx) (wr := wm) (As := [.int (xs (i + 1).toNatClampNeg)]) (rest := []) 8 hcX8 (by rw [ex]; rfl) kx ok_X8_keep ⟨Nat.le_of_ble_eq_true rfl, Nat.le_of_ble_eq_true rfl⟩ rfl rfl hk wd795 rfl rfl (Nat.le_of_ble_eq_true rfl) dL_law_867 ?_
  refine go_eq (pc' := 870) (st' := [.int r]) rfl rfl ?_
  refine go_aload_n 2 dL_law_870 rfl rfl ?_
  refine go_aload_n 0 dL_law_871 rfl rfl ?_
  refine go_iload_n 3 dL_law_872 rfl rfl ?_
  refine go_iconst (v := (1 : Int32)) dL_law_873 (by decide) ?_
  refine go_iadd dL_law_874 ?_
  refine go_sld hX hbl hbA h1 dL_law_875 ?_
  refine go_callVL (wi := wm) (wr := wx1) (As := [.int (xs (i + 1).toNatClampNeg)]) (rest := [.int r]) 9 hcX9 (by rw [em]; rfl) km ok_X9_keep ⟨Nat.le_of_ble_eq_true rfl, Nat.le_of_ble_eq_true rfl⟩ rfl rfl hk wd1182 rfl rfl (Nat.le_of_ble_eq_true rfl) dL_law_876 ?_
  refine go_eq (pc' := 879) (st' := [.int r, .int r]) rfl rfl ?_
  refine go_icmp_eqP 907 dL_law_879 (by decide) ?_
  exact next _ _ hR
set_option maxHeartbeats 4000000 in
theorem lc_28 {K : gK} {X : gX} {k n : Nat} {b x m Ls : Nat} {xs : Nat → Int32} {Rl : va_W → va_W → Prop} {wx wm : va_W} {i : Int32} (hk : k ≤ 600000 ∧ n ≤ 7302249) (hX : va_X b Ls xs (Xs X) (Xs X).heap) (hbl : b < (Xs X).heap.size) (hbA : ¬ XA X b) (h1 : vp_in (i + 1) Ls) (hx : ∃ fs wr, wx = (x, .inr (8, fs)) :: wr) (hm : ∃ fs wr, wm = (m, .inr (9, fs)) :: wr) (op : (∀ p1 : Int32, OpK K M_X8_goBack M_X9_goBack Rl wx wm [.ref x, .int p1] [.ref m, .int p1])) (next : ∀ wx' wm', Rl wx' wm' → Go K X M_L k n (wx' ++ wm') (Lx b x m i) 907 []) : Go K X M_L k n (wx ++ wm) (Lx b x m i) 884 [] := by
  obtain ⟨fx, rx, ex⟩ := hx
  obtain ⟨fm, rm, em⟩ := hm
  obtain ⟨r, wx1, wm1, kx, km, hR⟩ := op (xs (i + 1).toNatClampNeg)
  refine go_aload_n 1 dL_law_884 rfl rfl ?_
  refine go_aload_n 0 dL_law_885 rfl rfl ?_
  refine go_iload_n 3 dL_law_886 rfl rfl ?_
  refine go_iconst (v := (1 : Int32)) dL_law_887 (by decide) ?_
  refine go_iadd dL_law_888 ?_
  refine go_sld hX hbl hbA h1 dL_law_889 ?_
  refine go_callVL (wi := wx) (wr := wm) (As := [.int (xs (i + 1).toNatClampNeg)]) (rest := []) 8 hcX8 (by rw [ex]; rfl) kx ok_X8_goBack ⟨Nat.le_of_ble_eq_true rfl, Nat.le_of_ble_eq_true rfl⟩ rfl rfl hk wd799 rfl rfl (Nat.le_of_ble_eq_true rfl) dL_law_890 ?_
  refine go_eq (pc' := 893) (st' := [.int r]) rfl rfl ?_
  refine go_aload_n 2 dL_law_893 rfl rfl ?_
  refine go_aload_n 0 dL_law_894 rfl rfl ?_
  refine go_iload_n 3 dL_law_895 rfl rfl ?_
  refine go_iconst (v := (1 : Int32)) dL_law_896 (by decide) ?_
  refine go_iadd dL_law_897 ?_
  refine go_sld hX hbl hbA h1 dL_law_898 ?_
  refine go_callVL (wi := wm) (wr := wx1) (As := [.int (xs (i + 1).toNatClampNeg)]) (rest := [.int r]) 9 hcX9 (by rw [em]; rfl) km ok_X9_goBack ⟨Nat.le_of_ble_eq_true rfl, Nat.le_of_ble_eq_true rfl⟩ rfl rfl hk wd1186 rfl rfl (Nat.le_of_ble_eq_true rfl) dL_law_899 ?_
  refine go_eq (pc' := 902) (st' := [.int r, .int r]) rfl rfl ?_
  refine go_icmp_eqP 907 dL_law_902 (by decide) ?_
  exact next _ _ hR
set_option maxHeartbeats 4000000 in
theorem law_sw {K : gK} {X : gX} {k n : Nat} {b x m Ls : Nat} {xs : Nat → Int32} {Rl : va_W → va_W → Prop} (hk : k ≤ 600000 ∧ n ≤ 7302249) (hL : Ls ≤ 256) (hX : va_X b Ls xs (Xs X) (Xs X).heap) (hbl : b < (Xs X).heap.size) (hbA : ¬ XA X b) (ops : ∀ wx wm, Rl wx wm → LawOps K x m Rl wx wm) (fin : ∀ wx wm i, Go K X M_L k n (wx ++ wm) (Lx b x m i) 913 []) (j : Nat) (hj : j + 4 ≤ Ls) (wx wm : va_W) (hR : Rl wx wm) (next : ∀ wx' wm', Rl wx' wm' → Go K X M_L k n (wx' ++ wm') (Lx b x m (nI j)) 907 []) : ∀ v : Int32, Go K X M_L k n (wx ++ wm) (Lx b x m (nI j)) 32 [.int v] := by
  intro v
  have hi : ∀ q : Nat, q ≤ 3 → vp_in (nI j + nI q) Ls := fun q hq => by rw [nI_add]; exact vp_in_nI (by omega) (by omega)
  have h1 : vp_in (nI j + 1) Ls := hi 1 (by omega)
  have h2 : vp_in (nI j + 2) Ls := hi 2 (by omega)
  have h3 : vp_in (nI j + 3) Ls := hi 3 (by omega)
  obtain ⟨hx, hm, o0, o1, o2, o3, o4, o5, o6, o7, o8, o9, o10, o11, o12, o13, o14, o15, o16, o17, o18, o19, o20, o21, o22, o23, o24, o25, o26, o27, o28⟩ := ops wx wm hR
  by_cases c0 : v = 0
  · refine go_tIn (off := 132) 164 dL_law_32 (by rw [c0]; decide) (by rw [c0]; decide) (by rw [c0]; rfl) (by decide) ?_
    exact lc_0 hk hX hbl hbA h1 hx hm o0 next
  by_cases c1 : v = 1
  · refine go_tIn (off := 155) 187 dL_law_32 (by rw [c1]; decide) (by rw [c1]; decide) (by rw [c1]; rfl) (by decide) ?_
    exact lc_1 hk hX hbl hbA  hx hm o1 next
  by_cases c2 : v = 2
  · refine go_tIn (off := 168) 200 dL_law_32 (by rw [c2]; decide) (by rw [c2]; decide) (by rw [c2]; rfl) (by decide) ?_
    exact lc_2 hk hX hbl hbA  hx hm o2 next
  by_cases c3 : v = 3
  · refine go_tIn (off := 181) 213 dL_law_32 (by rw [c3]; decide) (by rw [c3]; decide) (by rw [c3]; rfl) (by decide) ?_
    exact lc_3 hk hX hbl hbA h1 hx hm o3 next
  by_cases c4 : v = 4
  · refine go_tIn (off := 204) 236 dL_law_32 (by rw [c4]; decide) (by rw [c4]; decide) (by rw [c4]; rfl) (by decide) ?_
    exact lc_4 hk hX hbl hbA h1 h2 hx hm o4 next
  by_cases c5 : v = 5
  · refine go_tIn (off := 237) 269 dL_law_32 (by rw [c5]; decide) (by rw [c5]; decide) (by rw [c5]; rfl) (by decide) ?_
    exact lc_5 hk hX hbl hbA h1 h2 hx hm o5 next
  by_cases c6 : v = 6
  · refine go_tIn (off := 270) 302 dL_law_32 (by rw [c6]; decide) (by rw [c6]; decide) (by rw [c6]; rfl) (by decide) ?_
    exact lc_6 hk hX hbl hbA h1 h2 hx hm o6 next
  by_cases c7 : v = 7
  · refine go_tIn (off := 303) 335 dL_law_32 (by rw [c7]; decide) (by rw [c7]; decide) (by rw [c7]; rfl) (by decide) ?_
    exact lc_7 hk hX hbl hbA h1 h2 hx hm o7 next
  by_cases c8 : v = 8
  · refine go_tIn (off := 336) 368 dL_law_32 (by rw [c8]; decide) (by rw [c8]; decide) (by rw [c8]; rfl) (by decide) ?_
    exact lc_8 hk hX hbl hbA h1 hx hm o8 next
  by_cases c9 : v = 9
  · refine go_tIn (off := 359) 391 dL_law_32 (by rw [c9]; decide) (by rw [c9]; decide) (by rw [c9]; rfl) (by decide) ?_
    exact lc_9 hk hX hbl hbA h1 hx hm o9 next
  by_cases c10 : v = 10
  · refine go_tIn (off := 382) 414 dL_law_32 (by rw [c10]; decide) (by rw [c10]; decide) (by rw [c10]; rfl) (by decide) ?_
    exact lc_10 hk hX hbl hbA  hx hm o10 next
  by_cases c11 : v = 11
  · refine go_tIn (off := 395) 427 dL_law_32 (by rw [c11]; decide) (by rw [c11]; decide) (by rw [c11]; rfl) (by decide) ?_
    exact lc_11 hk hX hbl hbA h1 hx hm o11 next
  by_cases c12 : v = 12
  · refine go_tIn (off := 418) 450 dL_law_32 (by rw [c12]; decide) (by rw [c12]; decide) (by rw [c12]; rfl) (by decide) ?_
    exact lc_12 hk hX hbl hbA  hx hm o12 next
  by_cases c13 : v = 13
  · refine go_tIn (off := 431) 463 dL_law_32 (by rw [c13]; decide) (by rw [c13]; decide) (by rw [c13]; rfl) (by decide) ?_
    exact lc_13 hk hX hbl hbA  hx hm o13 next
  by_cases c14 : v = 14
  · refine go_tIn (off := 444) 476 dL_law_32 (by rw [c14]; decide) (by rw [c14]; decide) (by rw [c14]; rfl) (by decide) ?_
    exact lc_14 hk hX hbl hbA h1 hx hm o14 next
  by_cases c15 : v = 15
  · refine go_tIn (off := 467) 499 dL_law_32 (by rw [c15]; decide) (by rw [c15]; decide) (by rw [c15]; rfl) (by decide) ?_
    exact lc_15 hk hX hbl hbA h1 hx hm o15 next
  by_cases c16 : v = 16
  · refine go_tIn (off := 490) 522 dL_law_32 (by rw [c16]; decide) (by rw [c16]; decide) (by rw [c16]; rfl) (by decide) ?_
    exact lc_16 hk hX hbl hbA h1 hx hm o16 next
  by_cases c17 : v = 17
  · refine go_tIn (off := 513) 545 dL_law_32 (by rw [c17]; decide) (by rw [c17]; decide) (by rw [c17]; rfl) (by decide) ?_
    exact lc_17 hk hX hbl hbA h1 h2 hx hm o17 next
  by_cases c18 : v = 18
  · refine go_tIn (off := 546) 578 dL_law_32 (by rw [c18]; decide) (by rw [c18]; decide) (by rw [c18]; rfl) (by decide) ?_
    exact lc_18 hk hX hbl hbA h1 h2 h3 hx hm o18 next
  by_cases c19 : v = 19
  · refine go_tIn (off := 589) 621 dL_law_32 (by rw [c19]; decide) (by rw [c19]; decide) (by rw [c19]; rfl) (by decide) ?_
    exact lc_19 hk hX hbl hbA h1 h2 hx hm o19 next
  by_cases c20 : v = 20
  · refine go_tIn (off := 622) 654 dL_law_32 (by rw [c20]; decide) (by rw [c20]; decide) (by rw [c20]; rfl) (by decide) ?_
    exact lc_20 hk hX hbl hbA h1 h2 hx hm o20 next
  by_cases c21 : v = 21
  · refine go_tIn (off := 655) 687 dL_law_32 (by rw [c21]; decide) (by rw [c21]; decide) (by rw [c21]; rfl) (by decide) ?_
    exact lc_21 hk hX hbl hbA h1 h2 h3 hx hm o21 next
  by_cases c22 : v = 22
  · refine go_tIn (off := 698) 730 dL_law_32 (by rw [c22]; decide) (by rw [c22]; decide) (by rw [c22]; rfl) (by decide) ?_
    exact lc_22 hk hX hbl hbA h1 h2 hx hm o22 next
  by_cases c23 : v = 23
  · refine go_tIn (off := 731) 763 dL_law_32 (by rw [c23]; decide) (by rw [c23]; decide) (by rw [c23]; rfl) (by decide) ?_
    exact lc_23 hk hX hbl hbA h1 h2 hx hm o23 next
  by_cases c24 : v = 24
  · refine go_tIn (off := 780) 812 dL_law_32 (by rw [c24]; decide) (by rw [c24]; decide) (by rw [c24]; rfl) (by decide) ?_
    exact lc_24 hk hX hbl hbA  hx hm o24 next
  by_cases c25 : v = 25
  · refine go_tIn (off := 793) 825 dL_law_32 (by rw [c25]; decide) (by rw [c25]; decide) (by rw [c25]; rfl) (by decide) ?_
    exact lc_25 hk hX hbl hbA  hx hm o25 next
  by_cases c26 : v = 26
  · refine go_tIn (off := 806) 838 dL_law_32 (by rw [c26]; decide) (by rw [c26]; decide) (by rw [c26]; rfl) (by decide) ?_
    exact lc_26 hk hX hbl hbA h1 hx hm o26 next
  by_cases c27 : v = 27
  · refine go_tIn (off := 829) 861 dL_law_32 (by rw [c27]; decide) (by rw [c27]; decide) (by rw [c27]; rfl) (by decide) ?_
    exact lc_27 hk hX hbl hbA h1 hx hm o27 next
  by_cases c28 : v = 28
  · refine go_tIn (off := 852) 884 dL_law_32 (by rw [c28]; decide) (by rw [c28]; decide) (by rw [c28]; rfl) (by decide) ?_
    exact lc_28 hk hX hbl hbA h1 hx hm o28 next
  refine go_tOut 907 dL_law_32 (by have h100 := lv_neT (a := 0) c0 rfl; have h101 := lv_neT (a := 1) c1 rfl; have h102 := lv_neT (a := 2) c2 rfl; have h103 := lv_neT (a := 3) c3 rfl; have h104 := lv_neT (a := 4) c4 rfl; have h105 := lv_neT (a := 5) c5 rfl; have h106 := lv_neT (a := 6) c6 rfl; have h107 := lv_neT (a := 7) c7 rfl; have h108 := lv_neT (a := 8) c8 rfl; have h109 := lv_neT (a := 9) c9 rfl; have h110 := lv_neT (a := 10) c10 rfl; have h111 := lv_neT (a := 11) c11 rfl; have h112 := lv_neT (a := 12) c12 rfl; have h113 := lv_neT (a := 13) c13 rfl; have h114 := lv_neT (a := 14) c14 rfl; have h115 := lv_neT (a := 15) c15 rfl; have h116 := lv_neT (a := 16) c16 rfl; have h117 := lv_neT (a := 17) c17 rfl; have h118 := lv_neT (a := 18) c18 rfl; have h119 := lv_neT (a := 19) c19 rfl; have h120 := lv_neT (a := 20) c20 rfl; have h121 := lv_neT (a := 21) c21 rfl; have h122 := lv_neT (a := 22) c22 rfl; have h123 := lv_neT (a := 23) c23 rfl; have h124 := lv_neT (a := 24) c24 rfl; have h125 := lv_neT (a := 25) c25 rfl; have h126 := lv_neT (a := 26) c26 rfl; have h127 := lv_neT (a := 27) c27 rfl; have h128 := lv_neT (a := 28) c28 rfl; omega) (by decide) ?_
  exact next _ _ hR
set_option maxHeartbeats 4000000 in
theorem law_loop {K : gK} {X : gX} {k n : Nat} {b x m Ls : Nat} {xs : Nat → Int32} {Rl : va_W → va_W → Prop} (hk : k ≤ 600000 ∧ n ≤ 7302249) (hL : Ls ≤ 256) (hX : va_X b Ls xs (Xs X) (Xs X).heap) (hbl : b < (Xs X).heap.size) (hbA : ¬ XA X b) (ops : ∀ wx wm, Rl wx wm → LawOps K x m Rl wx wm) (fin : ∀ wx wm i, Go K X M_L k n (wx ++ wm) (Lx b x m i) 913 []) : ∀ (fuel j : Nat) (wx wm : va_W), j ≤ Ls → Ls < j + fuel → Rl wx wm → Go K X M_L k n (wx ++ wm) (Lx b x m (nI j)) 18 [] := by
  intro fuel
  induction fuel with
  | zero =>
    intro j wx wm hj0 hj hR
    exact absurd hj (by omega)
  | succ fuel ih =>
    intro j wx wm hj0 hj hR
    refine go_iload_n 3 dL_law_18 rfl rfl ?_
    refine go_aload_n 0 dL_law_19 rfl rfl ?_
    refine go_slen hX hbl hbA dL_law_20 ?_
    refine go_iconst (v := (4 : Int32)) dL_law_21 (by decide) ?_
    refine go_isub dL_law_22 ?_
    refine go_icmp_gtP 913 dL_law_23 (by decide) (fun c => fin _ _ _) (fun c => ?_)
    have hj4 : j + 4 ≤ Ls := by
      rcases Nat.lt_or_ge Ls (j + 4) with q | q
      · exact absurd (law_big hL hj0 q) c
      · exact q
    refine go_aload_n 0 dL_law_26 rfl rfl ?_
    refine go_iload_n 3 dL_law_27 rfl rfl ?_
    refine go_sld hX hbl hbA (vp_in_nI (by omega) (by omega)) dL_law_28 ?_
    refine go_bipush (v := (31 : Int32)) dL_law_29 (by decide) ?_
    refine go_iand dL_law_31 ?_
    refine law_sw hk hL hX hbl hbA ops fin j hj4 wx wm hR (fun wx1 wm1 hR1 => ?_) _
    refine go_iincP (v := nI (j + 4)) 3 [(3, .int (nI (j + 4))), (0, .ref b), (1, .ref x), (2, .ref m)] dL_law_907 rfl (by rw [show Int32.ofInt 4 = nI 4 from rfl, nI_add]) (Nat.le_of_ble_eq_true rfl) rfl ?_
    refine go_goto 18 dL_law_910 (by decide) ?_
    refine go_loc (L' := Lx b x m (nI (j + 4))) [1, 2, 3, 0] rfl ?_
    exact ih (j + 4) wx1 wm1 hj4 (by omega) hR1
theorem law_fin {K : gK} {X : gX} {k n b x m : Nat} {i : Int32} (hk : k ≤ 600000 ∧ n ≤ 7302249) (hXa : Xa X = #[Value.ref b]) (hXQ : XQ X = lw_Z (Xb X) #[Value.ref b] (Xs X)) (hXA : XA X = fun q : Nat => (Xs X).heap.size ≤ q) (ws : va_W) : Go K X M_L k n ws (Lx b x m i) 913 [] := by
  refine go_iconst (v := (1 : Int32)) dL_law_913 (by decide) ?_
  intro C H locs ls hP hD hS hl
  rw [hXA] at hS
  rw [hXQ, hXa]
  refine va_forget (fun q hq => hS.2.2 q hq) ?_
  refine W.widen (k := 600000) (n := 7302249) hk.1 hk.2 ?_
  exact lw_ret C.1 C.2.1 C.2.2.2.2.2.1 C.2.2.2.2.2.2.1 dL_law_914
theorem nw0 : Jvm.Cond.methodLinkNest "SnoreCars" (11 : Nat) ({ cls := "SnoreCars$Text", name := "<init>", desc := "()V" } : Jvm.MethodName) "SnoreCars" ∈ lw_tbl := List.mem_of_getElem? (i := 87) (by decide +kernel)
theorem nw1 : Jvm.Cond.methodLinkNest "SnoreCars" (32 : Nat) ({ cls := "SnoreCars$Ear", name := "<init>", desc := "()V" } : Jvm.MethodName) "SnoreCars" ∈ lw_tbl := List.mem_of_getElem? (i := 199) (by decide +kernel)
theorem nw2 : Jvm.Cond.methodLinkNest "SnoreCars" (42 : Nat) ({ cls := "SnoreCars$Night", name := "<init>", desc := "()V" } : Jvm.MethodName) "SnoreCars" ∈ lw_tbl := List.mem_of_getElem? (i := 225) (by decide +kernel)
theorem nw3 : Jvm.Cond.methodLinkNest "SnoreCars" (71 : Nat) ({ cls := "SnoreCars$MakingUp", name := "<init>", desc := "()V" } : Jvm.MethodName) "SnoreCars" ∈ lw_tbl := List.mem_of_getElem? (i := 268) (by decide +kernel)
theorem nw4 : Jvm.Cond.methodLinkNest "SnoreCars" (78 : Nat) ({ cls := "SnoreCars$Shunting", name := "<init>", desc := "()V" } : Jvm.MethodName) "SnoreCars" ∈ lw_tbl := List.mem_of_getElem? (i := 302) (by decide +kernel)
theorem nw5 : Jvm.Cond.methodLinkNest "SnoreCars$Shunting" (23 : Nat) ({ cls := "SnoreCars$Steps", name := "<init>", desc := "()V" } : Jvm.MethodName) "SnoreCars" ∈ lw_tbl := List.mem_of_getElem? (i := 308) (by decide +kernel)
theorem nw6 : Jvm.Cond.methodLinkNest "SnoreCars$Text" (19 : Nat) ({ cls := "SnoreCars", name := "lay", desc := "([III)V" } : Jvm.MethodName) "SnoreCars" ∈ lw_tbl := List.mem_of_getElem? (i := 411) (by decide +kernel)
theorem nw7 : Jvm.Cond.methodLinkNest "SnoreCars$Text" (113 : Nat) ({ cls := "SnoreCars", name := "at", desc := "([II)I" } : Jvm.MethodName) "SnoreCars" ∈ lw_tbl := List.mem_of_getElem? (i := 428) (by decide +kernel)
theorem nw8 : Jvm.Cond.methodLinkNest "SnoreCars$Ear" (41 : Nat) ({ cls := "SnoreCars", name := "at", desc := "([II)I" } : Jvm.MethodName) "SnoreCars" ∈ lw_tbl := List.mem_of_getElem? (i := 479) (by decide +kernel)
theorem nw9 : Jvm.Cond.methodLinkNest "SnoreCars$Ear" (45 : Nat) ({ cls := "SnoreCars", name := "lay", desc := "([III)V" } : Jvm.MethodName) "SnoreCars" ∈ lw_tbl := List.mem_of_getElem? (i := 480) (by decide +kernel)
theorem nw10 : Jvm.Cond.methodLinkNest "SnoreCars$Ear" (63 : Nat) ({ cls := "SnoreCars", name := "apart", desc := "(II)I" } : Jvm.MethodName) "SnoreCars" ∈ lw_tbl := List.mem_of_getElem? (i := 488) (by decide +kernel)
theorem nw11 : Jvm.Cond.methodLinkNest "SnoreCars$Shelf" (26 : Nat) ({ cls := "SnoreCars", name := "at", desc := "([II)I" } : Jvm.MethodName) "SnoreCars" ∈ lw_tbl := List.mem_of_getElem? (i := 584) (by decide +kernel)
theorem nw12 : Jvm.Cond.methodLinkNest "SnoreCars$Shelf" (30 : Nat) ({ cls := "SnoreCars", name := "lay", desc := "([III)V" } : Jvm.MethodName) "SnoreCars" ∈ lw_tbl := List.mem_of_getElem? (i := 585) (by decide +kernel)
theorem nw13 : Jvm.Cond.methodLinkNest "SnoreCars$MakingUp" (72 : Nat) ({ cls := "SnoreCars", name := "at", desc := "([II)I" } : Jvm.MethodName) "SnoreCars" ∈ lw_tbl := List.mem_of_getElem? (i := 665) (by decide +kernel)
theorem nw14 : Jvm.Cond.methodLinkNest "SnoreCars$MakingUp" (45 : Nat) ({ cls := "SnoreCars", name := "lay", desc := "([III)V" } : Jvm.MethodName) "SnoreCars" ∈ lw_tbl := List.mem_of_getElem? (i := 666) (by decide +kernel)
theorem nw15 : Jvm.Cond.methodLinkNest "SnoreCars$Shunting" (40 : Nat) ({ cls := "SnoreCars", name := "at", desc := "([II)I" } : Jvm.MethodName) "SnoreCars" ∈ lw_tbl := List.mem_of_getElem? (i := 691) (by decide +kernel)
theorem nw16 : Jvm.Cond.methodLinkNest "SnoreCars$Shunting" (57 : Nat) ({ cls := "SnoreCars", name := "lay", desc := "([III)V" } : Jvm.MethodName) "SnoreCars" ∈ lw_tbl := List.mem_of_getElem? (i := 697) (by decide +kernel)
theorem nw17 : Jvm.Cond.methodLinkNest "SnoreCars$Steps" (33 : Nat) ({ cls := "SnoreCars", name := "carOf", desc := "([II)I" } : Jvm.MethodName) "SnoreCars" ∈ lw_tbl := List.mem_of_getElem? (i := 702) (by decide +kernel)
theorem nw18 : Jvm.Cond.methodLinkNest "SnoreCars$Steps" (40 : Nat) ({ cls := "SnoreCars", name := "isFull", desc := "(LSnoreCars$Train;[II)Z" } : Jvm.MethodName) "SnoreCars" ∈ lw_tbl := List.mem_of_getElem? (i := 703) (by decide +kernel)
theorem nw19 : Jvm.Cond.methodLinkNest "SnoreCars$Steps" (50 : Nat) ({ cls := "SnoreCars", name := "lay", desc := "([III)V" } : Jvm.MethodName) "SnoreCars" ∈ lw_tbl := List.mem_of_getElem? (i := 708) (by decide +kernel)
theorem nw20 : Jvm.Cond.methodLinkNest "SnoreCars$Steps" (54 : Nat) ({ cls := "SnoreCars", name := "at", desc := "([II)I" } : Jvm.MethodName) "SnoreCars" ∈ lw_tbl := List.mem_of_getElem? (i := 717) (by decide +kernel)
theorem nw21 : Jvm.Cond.methodLinkNest "SnoreCars$Night" (28 : Nat) ({ cls := "SnoreCars", name := "at", desc := "([II)I" } : Jvm.MethodName) "SnoreCars" ∈ lw_tbl := List.mem_of_getElem? (i := 746) (by decide +kernel)
theorem nest_in : ∀ q ∈ gN, Cond.methodLinkNest q.1 q.2.1 q.2.2.1 q.2.2.2 ∈ lw_tbl := List.forall_mem_cons.mpr ⟨nw0, List.forall_mem_cons.mpr ⟨nw1, List.forall_mem_cons.mpr ⟨nw2, List.forall_mem_cons.mpr ⟨nw3, List.forall_mem_cons.mpr ⟨nw4, List.forall_mem_cons.mpr ⟨nw5, List.forall_mem_cons.mpr ⟨nw6, List.forall_mem_cons.mpr ⟨nw7, List.forall_mem_cons.mpr ⟨nw8, List.forall_mem_cons.mpr ⟨nw9, List.forall_mem_cons.mpr ⟨nw10, List.forall_mem_cons.mpr ⟨nw11, List.forall_mem_cons.mpr ⟨nw12, List.forall_mem_cons.mpr ⟨nw13, List.forall_mem_cons.mpr ⟨nw14, List.forall_mem_cons.mpr ⟨nw15, List.forall_mem_cons.mpr ⟨nw16, List.forall_mem_cons.mpr ⟨nw17, List.forall_mem_cons.mpr ⟨nw18, List.forall_mem_cons.mpr ⟨nw19, List.forall_mem_cons.mpr ⟨nw20, List.forall_mem_cons.mpr ⟨nw21, fun _ h => absurd h List.not_mem_nil⟩⟩⟩⟩⟩⟩⟩⟩⟩⟩⟩⟩⟩⟩⟩⟩⟩⟩⟩⟩⟩⟩
def vwN (k : Nat) (f : Nat → ClassId) (c : ClassId) : Nat → ClassId := fun j => if j = k then c else f j
set_option maxHeartbeats 4000000 in
theorem law_start {p : Program} {e : Env} {s : State} {m : MethodId} {below : List Frame} {meth : Method} {c : Code} (l : Launch) {b L : Nat} {xs : Nat → Int32} (hL : L ≤ 256) (C0 : lw_At p s m meth c b L xs)
    (Rl : gK → Nat → Nat → va_W → va_W → Prop) (ops : ∀ K x y wx wm, Rl K x y wx wm → LawOps K x y (Rl K x y) wx wm)
    (N : Nat) (o_X7_clear : Int32 × Int32 × Int32 × Int32 × (Nat → Int32)) (ho_X7_clear : F_X7_clear N 0 0 0 0 (fun _ => 0) = some o_X7_clear) (o_X9_goOut : Nat → Int32) (ho_X9_goOut : F_X9_goOut N 10 (fun _ => 0) = some o_X9_goOut)
    (ini : ∀ K x y wx wm, O_X8_init K x o_X7_clear none wx → O_X9_init K y o_X9_goOut none wm → Rl K x y wx wm) :
    W p l e room_1 s m #[Value.ref b] below meth c s.heap [] 0 0 (lw_Z below #[Value.ref b] s) (entryFrame m ([Value.ref b] : List Value).toArray 4) := by
  obtain ⟨hx, hb, hr, hml, hown, hts, hX, hbl, hlocks, hgv⟩ := id C0
  have hG : ∀ w ∈ GW, w.before #[Value.ref b] s = true := fun w hw => hts w (List.mem_filter.mp hw).1
  have hnew : ∀ (C : String) (T : u_T) (N0 n0 : Nat), (∀ w ∈ u_ws C T N0, w ∈ GW) → Cond.instantiable C n0 ∈ GW → ∃ (cC : ClassId) (iS : Nat → Nat), u_Kn s C T N0 cC iS := fun C T N0 n0 h1 h2 => u_known hG h1 (hG _ h2)
  obtain ⟨c0, i0, hKn0⟩ := hnew RX0 TX0 6 6 inX0 wd198
  obtain ⟨c1, i1, hKn1⟩ := hnew RX1 TX1 8 8 inX1 wd267
  obtain ⟨c2, i2, hKn2⟩ := hnew RX2 TX2 4 4 inX2 wd224
  obtain ⟨c3, i3, hKn3⟩ := hnew RX3 TX3 1 1 inX3 wd254
  obtain ⟨c4, i4, hKn4⟩ := hnew RX4 TX4 5 5 inX4 wd301
  obtain ⟨c5, i5, hKn5⟩ := hnew RX5 TX5 5 5 inX5 wd307
  obtain ⟨c6, i6, hKn6⟩ := hnew RX6 TX6 7 7 inX6 wd86
  obtain ⟨c7, i7, hKn7⟩ := hnew RX7 TX7 11 11 inX7 wd117
  obtain ⟨c8, i8, hKn8⟩ := hnew RX8 TX8 18 18 inX8 wd78
  obtain ⟨c9, i9, hKn9⟩ := hnew RX9 TX9 37 37 inX9 wd804
  obtain ⟨dC, dI, hKc⟩ : ∃ (dC : Nat → ClassId) (dI : Nat → Nat → Nat), ∀ (k : Nat) (q : vw_C), vwCl[k]? = some q → u_Kn s q.1 q.2.1 q.2.2 (dC k) (dI k) := by
    refine ⟨fun k => match k with | 0 => c0 | 1 => c1 | 2 => c2 | 3 => c3 | 4 => c4 | 5 => c5 | 6 => c6 | 7 => c7 | 8 => c8 | _ => c9, fun k => match k with | 0 => i0 | 1 => i1 | 2 => i2 | 3 => i3 | 4 => i4 | 5 => i5 | 6 => i6 | 7 => i7 | 8 => i8 | _ => i9, ?_⟩
    intro k q hq
    match k, hq with
    | 0, hq => cases hq; exact hKn0
    | 1, hq => cases hq; exact hKn1
    | 2, hq => cases hq; exact hKn2
    | 3, hq => cases hq; exact hKn3
    | 4, hq => cases hq; exact hKn4
    | 5, hq => cases hq; exact hKn5
    | 6, hq => cases hq; exact hKn6
    | 7, hq => cases hq; exact hKn7
    | 8, hq => cases hq; exact hKn8
    | 9, hq => cases hq; exact hKn9
    | k + 10, hq => simp [vwCl] at hq
  obtain ⟨cI, kAI, compI, hfI, hkI, hkindI⟩ := Cond.arrayClass_spec (hG _ wd115)
  obtain ⟨cZ, kAZ, compZ, hfZ, hkZ, hkindZ⟩ := Cond.arrayClass_spec (hG _ wd924)
  have hE : gE (l, dC, dI, cI, cZ) s := by
    refine ⟨⟨hKc, ?_⟩, ?_⟩
    · intro k q hq
      match k, hq with
      | 0, hq => cases hq; exact ⟨fun n z => ⟨fun k h => (by cases h), kAI, hkI, compI, hkindI⟩, hfI⟩
      | 1, hq => cases hq; exact ⟨fun n z => ⟨fun k h => (by cases h), kAZ, hkZ, compZ, hkindZ⟩, hfZ⟩
      | k + 2, hq => simp at hq
    · intro q hq
      have hw : Cond.methodLinkNest q.1 q.2.1 q.2.2.1 q.2.2.2 ∈ lw_tbl := nest_in q hq
      exact va_Nw.of (A := #[Value.ref b]) rfl (hts _ hw)
  have hS : va_S (fun q : Nat => s.heap.size ≤ q) s.heap s.heap [] := va_S.rf
  have hP : va_P (gD (l, dC, dI, cI, cZ)) vwCl [] s.heap := fun k q h => by simp at h
  have hD : va_D (fun q : Nat => s.heap.size ≤ q) [] := ⟨fun i j p q h => by simp at h, fun k q h => by simp at h⟩
  have hl := lv_entry ([.ref b]) (n := 4) (Nat.le_of_ble_eq_true rfl)
  rw [lg_entry_eq]
  have hbA : ¬ (fun q : Nat => s.heap.size ≤ q) b := Nat.not_le.mpr hbl
  have key : Go (l, dC, dI, cI, cZ) (p, e, s, m, #[Value.ref b], below, meth, c, fun q : Nat => s.heap.size ≤ q, lw_Z below #[Value.ref b] s) M_L 0 0 [] (lv_args 0 [.ref b]) 0 [] := by
    refine go_loc (L' := [(0, .ref b)]) [0] rfl ?_
    refine go_new 8 [.null, .null, .null, .int 0, .null, .null, .null, .null, .null, .int 0, .int 0, .null, .int 0, .null, .null, .int 0, .null, .null] hcX8 inX8 tyX8_ok wd77 wd78 wd64 (fun j hj => by rcases (show j = 0 ∨ j = 1 ∨ j = 2 ∨ j = 3 ∨ j = 4 ∨ j = 5 ∨ j = 6 ∨ j = 7 ∨ j = 8 ∨ j = 9 ∨ j = 10 ∨ j = 11 ∨ j = 12 ∨ j = 13 ∨ j = 14 ∨ j = 15 ∨ j = 16 ∨ j = 17 by omega) with rfl | rfl | rfl | rfl | rfl | rfl | rfl | rfl | rfl | rfl | rfl | rfl | rfl | rfl | rfl | rfl | rfl | rfl <;> rfl) (Nat.le_of_ble_eq_true rfl) (Nat.le_of_ble_eq_true rfl) dL_law_0 (fun x => ?_)
    refine go_dup dL_law_3 rfl ?_
    refine go_callI (As := []) (rest := [.ref x]) (wr := []) (ki_X8_init (l, dC, dI, cI, cZ) N x o_X7_clear ho_X7_clear) ok_X8_init ⟨Nat.le_of_ble_eq_true rfl, Nat.le_of_ble_eq_true rfl⟩ ⟨Nat.le_of_ble_eq_true rfl, Nat.le_of_ble_eq_true rfl⟩ wd79 rfl rfl (Nat.le_of_ble_eq_true rfl) dL_law_4 [0] [] rfl rfl rfl rfl (by decide) (fun r wx hOx => ?_)
    have er : r = none := hOx.1
    subst er
    refine go_eq (pc' := 7) (st' := [.ref x]) rfl rfl ?_
    refine go_astore_n [(1, .ref x), (0, .ref b)] dL_law_7 rfl (Nat.le_of_ble_eq_true rfl) rfl ?_
    refine go_new 9 [.int 0, .null, .int 0, .int 0, .int 0, .int 0, .int 0, .int 0, .int 0, .int 0, .int 0, .int 0, .int 0, .null, .null, .null, .int 0, .int 0, .int 0, .int 0, .null, .null, .null, .null, .null, .null, .int 0, .null, .null, .null, .int 0, .int 0, .null, .null, .null, .null, .int 0] hcX9 inX9 tyX9_ok wd803 wd804 wd75 (fun j hj => by rcases (show j = 0 ∨ j = 1 ∨ j = 2 ∨ j = 3 ∨ j = 4 ∨ j = 5 ∨ j = 6 ∨ j = 7 ∨ j = 8 ∨ j = 9 ∨ j = 10 ∨ j = 11 ∨ j = 12 ∨ j = 13 ∨ j = 14 ∨ j = 15 ∨ j = 16 ∨ j = 17 ∨ j = 18 ∨ j = 19 ∨ j = 20 ∨ j = 21 ∨ j = 22 ∨ j = 23 ∨ j = 24 ∨ j = 25 ∨ j = 26 ∨ j = 27 ∨ j = 28 ∨ j = 29 ∨ j = 30 ∨ j = 31 ∨ j = 32 ∨ j = 33 ∨ j = 34 ∨ j = 35 ∨ j = 36 by omega) with rfl | rfl | rfl | rfl | rfl | rfl | rfl | rfl | rfl | rfl | rfl | rfl | rfl | rfl | rfl | rfl | rfl | rfl | rfl | rfl | rfl | rfl | rfl | rfl | rfl | rfl | rfl | rfl | rfl | rfl | rfl | rfl | rfl | rfl | rfl | rfl | rfl <;> rfl) (Nat.le_of_ble_eq_true rfl) (Nat.le_of_ble_eq_true rfl) dL_law_8 (fun y => ?_)
    refine go_dup dL_law_11 rfl ?_
    refine go_swap ?_
    refine go_callI (As := []) (rest := [.ref y]) (wr := wx) (ki_X9_init (l, dC, dI, cI, cZ) N y o_X9_goOut ho_X9_goOut) ok_X9_init ⟨Nat.le_of_ble_eq_true rfl, Nat.le_of_ble_eq_true rfl⟩ ⟨Nat.le_of_ble_eq_true rfl, Nat.le_of_ble_eq_true rfl⟩ wd805 rfl rfl (Nat.le_of_ble_eq_true rfl) dL_law_12 (List.range 1) ((List.range wx.length).map (fun i => 1 + i)) (lr_l (wi := [_])) (lr_r (wi := [_])) (lr_nl _) (lr_nr _ _) (lr_dis _ _) (fun r wm hOm => ?_)
    have er : r = none := hOm.1
    subst er
    refine go_eq (pc' := 15) (st' := [.ref y]) rfl rfl ?_
    refine go_astore_n [(2, .ref y), (1, .ref x), (0, .ref b)] dL_law_15 rfl (Nat.le_of_ble_eq_true rfl) rfl ?_
    refine go_iconst (v := (0 : Int32)) dL_law_16 (by decide) ?_
    refine go_istore_n [(3, .int 0), (2, .ref y), (1, .ref x), (0, .ref b)] dL_law_17 rfl (Nat.le_of_ble_eq_true rfl) rfl ?_
    refine go_loc (L' := Lx b x y (nI 0)) [3, 2, 1, 0] rfl ?_
    refine go_eq (pc' := 18) (st' := []) rfl rfl ?_
    exact law_loop (Rl := Rl (l, dC, dI, cI, cZ) x y) ⟨Nat.le_of_ble_eq_true rfl, Nat.le_of_ble_eq_true rfl⟩ hL hX hbl hbA (ops _ x y) (fun wx1 wm1 i => law_fin ⟨Nat.le_of_ble_eq_true rfl, Nat.le_of_ble_eq_true rfl⟩ rfl rfl rfl _) (L + 1) 0 wx wm (Nat.zero_le _) (by omega) (ini _ x y wx wm hOx hOm)
  exact key ⟨hx, hb, hml, hown, hG, hr, hlocks, fun h => absurd h (by decide), hE, fun q h => h⟩ s.heap [] _ hP hD hS hl
