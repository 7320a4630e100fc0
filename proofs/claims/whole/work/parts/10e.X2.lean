def C_X2_begin (K : gK) (a : Nat) (a_crews : Nat) (s_a_awake : Int32) (s_a_hour : Int32) (s_a_seed : Int32) (f_a_crews : Nat → Int32) : va_W := [(a, .inr (2, [.ref a_crews, .int s_a_awake, .int s_a_hour, .int s_a_seed])), (a_crews, .inl (kI K, 4, .inl f_a_crews))]
def M_X2_begin : gM := (yX2_begin, cX2_begin, 1, none, { frames := 1, cells := 0, slots := 0, locals := 23 })
def O_X2_begin (K : gK) (a : Nat) (a_crews : Nat) (s_a_seed : Int32) (o : Int32 × Int32 × (Nat → Int32)) : Option Value → va_W → Prop := fun r w => r = none ∧ w = C_X2_begin K a a_crews o.1 o.2.1 s_a_seed o.2.2
noncomputable def F_X2_begin (N : Nat) (s_a_awake : Int32) (s_a_hour : Int32) (f_a_crews : Nat → Int32) : Option (Int32 × Int32 × (Nat → Int32)) := bnd (F_J7_fill_53178 N 4 f_a_crews (0 : Int32)) (fun o1 => some ((0 : Int32), (0 : Int32), o1))
set_option maxHeartbeats 4000000 in
theorem kn_X2_begin (K : gK) (N : Nat) (a : Nat) (a_crews : Nat) (s_a_seed : Int32) (s_a_awake : Int32) (s_a_hour : Int32) (f_a_crews : Nat → Int32) {o : Int32 × Int32 × (Nat → Int32)} (hF : F_X2_begin N s_a_awake s_a_hour f_a_crews = some o) : Kn K M_X2_begin [.ref a] (C_X2_begin K a a_crews s_a_awake s_a_hour s_a_seed f_a_crews) (O_X2_begin K a a_crews s_a_seed o) := by
  refine kn_of (by decide +kernel) (Nat.le_of_ble_eq_true rfl) (fun X hR => ?_)
  refine go_loc (L' := [(0, .ref a)]) [0] rfl ?_
  unfold F_X2_begin at hF
  refine go_aload_n 0 dX2_begin_0 rfl rfl ?_
  refine go_get 2 0 0 hcX2 inX2 (Nat.le_of_ble_eq_true rfl) wd229 rfl rfl dX2_begin_1 ?_
  refine go_iconst (v := (0 : Int32)) dX2_begin_4 (by decide) ?_
  obtain ⟨o1, ho1, hF⟩ := bnd_elim hF
  refine go_callS (As := [.ref a_crews, .int (0 : Int32)]) (rest := []) (wr := [(a, .inr (2, [.ref a_crews, .int s_a_awake, .int s_a_hour, .int s_a_seed]))]) (kn_J7_fill_53178 K N a_crews 4 f_a_crews (0 : Int32) ho1) ok_J7_fill_53178 ⟨Nat.le_of_ble_eq_true rfl, Nat.le_of_ble_eq_true rfl⟩ ⟨Nat.le_of_ble_eq_true rfl, Nat.le_of_ble_eq_true rfl⟩ wd499 rfl rfl (Nat.le_of_ble_eq_true rfl) dX2_begin_5 [1] [0] rfl rfl rfl rfl (by decide) (fun r wo hO => ?_)
  obtain ⟨rfl, rfl⟩ := hO
  refine go_ws (ws' := C_X2_begin K a a_crews s_a_awake s_a_hour s_a_seed o1) [0, 1] rfl rfl ?_
  refine go_eq (pc' := 8) (st' := []) rfl rfl ?_
  refine go_aload_n 0 dX2_begin_8 rfl rfl ?_
  refine go_iconst (v := (0 : Int32)) dX2_begin_9 (by decide) ?_
  refine go_put 2 0 1 (C_X2_begin K a a_crews (0 : Int32) s_a_hour s_a_seed o1) hcX2 inX2 tyX2_ok nmX2 (Nat.le_of_ble_eq_true rfl) wd233 rfl rfl rfl rfl (Nat.le_of_ble_eq_true rfl) rfl dX2_begin_10 ?_
  refine go_aload_n 0 dX2_begin_13 rfl rfl ?_
  refine go_iconst (v := (0 : Int32)) dX2_begin_14 (by decide) ?_
  refine go_put 2 0 2 (C_X2_begin K a a_crews (0 : Int32) (0 : Int32) s_a_seed o1) hcX2 inX2 tyX2_ok nmX2 (Nat.le_of_ble_eq_true rfl) wd237 rfl rfl rfl rfl (Nat.le_of_ble_eq_true rfl) rfl dX2_begin_15 ?_
  exact go_vret (Om := O_X2_begin K a a_crews s_a_seed) hR hF dX2_begin_18 rfl (Nat.zero_le _) (Nat.zero_le _) ⟨rfl, rfl⟩
theorem ok_X2_begin : gOkV M_X2_begin 0 := ⟨⟨wd498, wd69, by decide +kernel, by decide +kernel, by decide +kernel⟩, wd496, wd497⟩
def C_X2_inCars (K : gK) (a : Nat) (a_crews : Nat) (s_a_awake : Int32) (s_a_hour : Int32) (s_a_seed : Int32) (f_a_crews : Nat → Int32) : va_W := [(a, .inr (2, [.ref a_crews, .int s_a_awake, .int s_a_hour, .int s_a_seed])), (a_crews, .inl (kI K, 4, .inl f_a_crews))]
def M_X2_inCars : gM := (yX2_inCars, cX2_inCars, 3, (some .int), { frames := 0, cells := 0, slots := 0, locals := 0 })
def O_X2_inCars (K : gK) (a : Nat) (a_crews : Nat) (s_a_awake : Int32) (s_a_hour : Int32) (s_a_seed : Int32) (f_a_crews : Nat → Int32) (o : Int32) : Option Value → va_W → Prop := fun r w => r = some (.int o) ∧ w = C_X2_inCars K a a_crews s_a_awake s_a_hour s_a_seed f_a_crews
noncomputable def B_X2_inCars_4 (N : Nat) (f_a_crews : Nat → Int32) (k4 : Int32 → Int32 → Option (Int32)) (x1 : Int32) (x2 : Int32) : Option (Int32) := if (4 : Int32) ≤ x2 then some x1 else rd 4 f_a_crews x2 (fun v1 => nm (x1 ||| v1) (fun v2 => nm (x2 + (1 : Int32)) (fun v3 => k4 v2 v3)))
noncomputable def F_X2_inCars_4 (N : Nat) (f_a_crews : Nat → Int32)  : Nat → Int32 → Int32 → Option (Int32) := lq2 (fun self => B_X2_inCars_4 N f_a_crews  self)
set_option maxHeartbeats 4000000 in
theorem G_X2_inCars_4 {K : gK} {X : gX} {wi : va_W} {o : Int32} (N : Nat) (f_a_crews : Nat → Int32) (a : Nat) (a_crews : Nat) (s_a_awake : Int32) (s_a_hour : Int32) (s_a_seed : Int32) (hR : gR K X M_X2_inCars wi (O_X2_inCars K a a_crews s_a_awake s_a_hour s_a_seed f_a_crews o)) (k4 : Int32 → Int32 → Option (Int32)) (hk4 : ∀ (x1 : Int32) (x2 : Int32), k4 x1 x2 = some o → Go K X M_X2_inCars 0 0 (C_X2_inCars K a a_crews s_a_awake s_a_hour s_a_seed f_a_crews) [(0, .ref a), (1, .int x1), (2, .int x2)] 4 []) (x1 : Int32) (x2 : Int32) (hF : B_X2_inCars_4 N f_a_crews k4 x1 x2 = some o) : Go K X M_X2_inCars 0 0 (C_X2_inCars K a a_crews s_a_awake s_a_hour s_a_seed f_a_crews) [(0, .ref a), (1, .int x1), (2, .int x2)] 4 [] := by
  unfold B_X2_inCars_4 at hF
  refine go_iload_n 2 dX2_inCars_4 rfl rfl ?_
  refine go_aload_n 0 dX2_inCars_5 rfl rfl ?_
  refine go_get 2 0 0 hcX2 inX2 (Nat.le_of_ble_eq_true rfl) wd229 rfl rfl dX2_inCars_6 ?_
  refine go_alen (v := (4 : Int32)) 1 rfl rfl dX2_inCars_9 ?_
  refine go_icmp_ge 28 hF dX2_inCars_10 (by decide) (fun hF => ?_) (fun hF => ?_)
  · refine go_iload_n 1 dX2_inCars_28 rfl rfl ?_
    exact go_iret (Om := O_X2_inCars K a a_crews s_a_awake s_a_hour s_a_seed f_a_crews) hR hF dX2_inCars_29 rfl rfl (Nat.zero_le _) (Nat.zero_le _) ⟨rfl, rfl⟩
  · refine go_iload_n 1 dX2_inCars_13 rfl rfl ?_
    refine go_aload_n 0 dX2_inCars_14 rfl rfl ?_
    refine go_get 2 0 0 hcX2 inX2 (Nat.le_of_ble_eq_true rfl) wd229 rfl rfl dX2_inCars_15 ?_
    refine go_iload_n 2 dX2_inCars_18 rfl rfl ?_
    refine go_iald 1 hF rfl dX2_inCars_19 (fun v1 hF => ?_)
    refine go_ior dX2_inCars_20 ?_
    refine go_nmi hF (fun v2 hF => ?_)
    refine go_istore_n [(1, .int v2), (0, .ref a), (2, .int x2)] dX2_inCars_21 rfl (Nat.le_of_ble_eq_true rfl) rfl ?_
    refine go_iinc 2 (fun y => [(2, .int y), (1, .int v2), (0, .ref a)]) hF dX2_inCars_22 rfl rfl (Nat.le_of_ble_eq_true rfl) (fun _ => rfl) (fun v3 hF => ?_)
    refine go_goto 4 dX2_inCars_25 (by decide) ?_
    refine go_loc (L' := [(0, .ref a), (1, .int v2), (2, .int v3)]) [2, 1, 0] rfl ?_
    exact hk4 v2 v3 hF
theorem GL_X2_inCars_4 {K : gK} {X : gX} {wi : va_W} {o : Int32} (N : Nat) (f_a_crews : Nat → Int32) (a : Nat) (a_crews : Nat) (s_a_awake : Int32) (s_a_hour : Int32) (s_a_seed : Int32) (hR : gR K X M_X2_inCars wi (O_X2_inCars K a a_crews s_a_awake s_a_hour s_a_seed f_a_crews o))  : ∀ (fuel : Nat) (x1 : Int32) (x2 : Int32), F_X2_inCars_4 N f_a_crews  fuel x1 x2 = some o → Go K X M_X2_inCars 0 0 (C_X2_inCars K a a_crews s_a_awake s_a_hour s_a_seed f_a_crews) [(0, .ref a), (1, .int x1), (2, .int x2)] 4 [] :=
  lq2_elim (fun self hs x1 x2 hF => G_X2_inCars_4 N f_a_crews a a_crews s_a_awake s_a_hour s_a_seed hR  self hs x1 x2 hF)
noncomputable def F_X2_inCars (N : Nat) (f_a_crews : Nat → Int32) : Option (Int32) := F_X2_inCars_4 N f_a_crews N (0 : Int32) (0 : Int32)
set_option maxHeartbeats 4000000 in
theorem kn_X2_inCars (K : gK) (N : Nat) (a : Nat) (a_crews : Nat) (s_a_awake : Int32) (s_a_hour : Int32) (s_a_seed : Int32) (f_a_crews : Nat → Int32) {o : Int32} (hF : F_X2_inCars N f_a_crews = some o) : Kn K M_X2_inCars [.ref a] (C_X2_inCars K a a_crews s_a_awake s_a_hour s_a_seed f_a_crews) (O_X2_inCars K a a_crews s_a_awake s_a_hour s_a_seed f_a_crews o) := by
  refine kn_of (by decide +kernel) (Nat.le_of_ble_eq_true rfl) (fun X hR => ?_)
  refine go_loc (L' := [(0, .ref a)]) [0] rfl ?_
  unfold F_X2_inCars at hF
  refine go_iconst (v := (0 : Int32)) dX2_inCars_0 (by decide) ?_
  refine go_istore_n [(1, .int (0 : Int32)), (0, .ref a)] dX2_inCars_1 rfl (Nat.le_of_ble_eq_true rfl) rfl ?_
  refine go_iconst (v := (0 : Int32)) dX2_inCars_2 (by decide) ?_
  refine go_istore_n [(2, .int (0 : Int32)), (1, .int (0 : Int32)), (0, .ref a)] dX2_inCars_3 rfl (Nat.le_of_ble_eq_true rfl) rfl ?_
  refine go_loc (L' := [(0, .ref a), (1, .int (0 : Int32)), (2, .int (0 : Int32))]) [2, 1, 0] rfl ?_
  exact GL_X2_inCars_4 N f_a_crews a a_crews s_a_awake s_a_hour s_a_seed hR  N (0 : Int32) (0 : Int32) hF
theorem ok_X2_inCars : gOkV M_X2_inCars 0 := ⟨⟨wd515, wd69, by decide +kernel, by decide +kernel, by decide +kernel⟩, wd513, wd514⟩
def C_X2_lead (K : gK) (a : Nat) (a_crews : Nat) (s_a_awake : Int32) (s_a_hour : Int32) (s_a_seed : Int32) (f_a_crews : Nat → Int32) : va_W := [(a, .inr (2, [.ref a_crews, .int s_a_awake, .int s_a_hour, .int s_a_seed])), (a_crews, .inl (kI K, 4, .inl f_a_crews))]
def M_X2_lead : gM := (yX2_lead, cX2_lead, 5, none, { frames := 0, cells := 0, slots := 0, locals := 0 })
def O_X2_lead (K : gK) (a : Nat) (a_crews : Nat) (s_a_awake : Int32) (s_a_hour : Int32) (s_a_seed : Int32) (o : (Nat → Int32)) : Option Value → va_W → Prop := fun r w => r = none ∧ w = C_X2_lead K a a_crews s_a_awake s_a_hour s_a_seed o
noncomputable def B_X2_lead_46 (N : Nat) (p1 : Int32) (p2 : Int32) (k2 : (Nat → Int32) → Int32 → Option ((Nat → Int32))) (f_a_crews : Nat → Int32) (x3 : Int32) (z1 : Int32) (z2 : Int32) : Option ((Nat → Int32)) := wr 4 f_a_crews z1 z2 (fun g3 => nm (x3 + (1 : Int32)) (fun v4 => k2 g3 v4))
set_option maxHeartbeats 4000000 in
theorem G_X2_lead_46 {K : gK} {X : gX} {wi : va_W} {o : (Nat → Int32)} (N : Nat) (p1 : Int32) (p2 : Int32) (a : Nat) (a_crews : Nat) (s_a_awake : Int32) (s_a_hour : Int32) (s_a_seed : Int32) (hR : gR K X M_X2_lead wi (O_X2_lead K a a_crews s_a_awake s_a_hour s_a_seed o)) (k2 : (Nat → Int32) → Int32 → Option ((Nat → Int32))) (hk2 : ∀ (f_a_crews : Nat → Int32) (x3 : Int32), k2 f_a_crews x3 = some o → Go K X M_X2_lead 0 0 (C_X2_lead K a a_crews s_a_awake s_a_hour s_a_seed f_a_crews) [(0, .ref a), (1, .int p1), (2, .int p2), (3, .int x3)] 2 []) (f_a_crews : Nat → Int32) (x3 : Int32) (z1 : Int32) (z2 : Int32) (hF : B_X2_lead_46 N p1 p2 k2 f_a_crews x3 z1 z2 = some o) : Go K X M_X2_lead 0 0 (C_X2_lead K a a_crews s_a_awake s_a_hour s_a_seed f_a_crews) [(0, .ref a), (1, .int p1), (2, .int p2), (3, .int x3)] 46 [.int z2, .int z1, .ref a_crews] := by
  unfold B_X2_lead_46 at hF
  refine go_iast 1 (fun y => C_X2_lead K a a_crews s_a_awake s_a_hour s_a_seed y) hF rfl (fun _ => rfl) dX2_lead_46 (fun g3 hF => ?_)
  refine go_iinc 3 (fun y => [(3, .int y), (0, .ref a), (1, .int p1), (2, .int p2)]) hF dX2_lead_47 rfl rfl (Nat.le_of_ble_eq_true rfl) (fun _ => rfl) (fun v4 hF => ?_)
  refine go_goto 2 dX2_lead_50 (by decide) ?_
  refine go_loc (L' := [(0, .ref a), (1, .int p1), (2, .int p2), (3, .int v4)]) [1, 2, 3, 0] rfl ?_
  exact hk2 g3 v4 hF
noncomputable def B_X2_lead_2 (N : Nat) (p1 : Int32) (p2 : Int32) (k2 : (Nat → Int32) → Int32 → Option ((Nat → Int32))) (f_a_crews : Nat → Int32) (x3 : Int32) : Option ((Nat → Int32)) := if (4 : Int32) ≤ x3 then some f_a_crews else rd 4 f_a_crews x3 (fun v1 => nm (v1 &&& (((1 : Int32) <<< (p1 &&& 31)) ^^^ (-1 : Int32))) (fun v2 => if x3 = p2 then B_X2_lead_46 N p1 p2 k2 f_a_crews x3 x3 (v2 ||| ((1 : Int32) <<< (p1 &&& 31))) else B_X2_lead_46 N p1 p2 k2 f_a_crews x3 x3 v2))
noncomputable def F_X2_lead_2 (N : Nat) (p1 : Int32) (p2 : Int32)  : Nat → (Nat → Int32) → Int32 → Option ((Nat → Int32)) := lq2 (fun self => B_X2_lead_2 N p1 p2  self)
set_option maxHeartbeats 4000000 in
theorem G_X2_lead_2 {K : gK} {X : gX} {wi : va_W} {o : (Nat → Int32)} (N : Nat) (p1 : Int32) (p2 : Int32) (a : Nat) (a_crews : Nat) (s_a_awake : Int32) (s_a_hour : Int32) (s_a_seed : Int32) (hR : gR K X M_X2_lead wi (O_X2_lead K a a_crews s_a_awake s_a_hour s_a_seed o)) (k2 : (Nat → Int32) → Int32 → Option ((Nat → Int32))) (hk2 : ∀ (f_a_crews : Nat → Int32) (x3 : Int32), k2 f_a_crews x3 = some o → Go K X M_X2_lead 0 0 (C_X2_lead K a a_crews s_a_awake s_a_hour s_a_seed f_a_crews) [(0, .ref a), (1, .int p1), (2, .int p2), (3, .int x3)] 2 []) (f_a_crews : Nat → Int32) (x3 : Int32) (hF : B_X2_lead_2 N p1 p2 k2 f_a_crews x3 = some o) : Go K X M_X2_lead 0 0 (C_X2_lead K a a_crews s_a_awake s_a_hour s_a_seed f_a_crews) [(0, .ref a), (1, .int p1), (2, .int p2), (3, .int x3)] 2 [] := by
  unfold B_X2_lead_2 at hF
  refine go_iload_n 3 dX2_lead_2 rfl rfl ?_
  refine go_aload_n 0 dX2_lead_3 rfl rfl ?_
  refine go_get 2 0 0 hcX2 inX2 (Nat.le_of_ble_eq_true rfl) wd229 rfl rfl dX2_lead_4 ?_
  refine go_alen (v := (4 : Int32)) 1 rfl rfl dX2_lead_7 ?_
  refine go_icmp_ge 53 hF dX2_lead_8 (by decide) (fun hF => ?_) (fun hF => ?_)
  · exact go_vret (Om := O_X2_lead K a a_crews s_a_awake s_a_hour s_a_seed) hR hF dX2_lead_53 rfl (Nat.zero_le _) (Nat.zero_le _) ⟨rfl, rfl⟩
  · refine go_aload_n 0 dX2_lead_11 rfl rfl ?_
    refine go_get 2 0 0 hcX2 inX2 (Nat.le_of_ble_eq_true rfl) wd229 rfl rfl dX2_lead_12 ?_
    refine go_iload_n 3 dX2_lead_15 rfl rfl ?_
    refine go_iald 1 hF rfl dX2_lead_16 (fun v1 hF => ?_)
    refine go_iconst (v := (1 : Int32)) dX2_lead_17 (by decide) ?_
    refine go_iload_n 1 dX2_lead_18 rfl rfl ?_
    refine go_ishl dX2_lead_19 ?_
    refine go_iconst (v := (-1 : Int32)) dX2_lead_20 (by decide) ?_
    refine go_ixor dX2_lead_21 ?_
    refine go_iand dX2_lead_22 ?_
    refine go_nmi hF (fun v2 hF => ?_)
    refine go_istore [(4, .int v2), (0, .ref a), (1, .int p1), (2, .int p2), (3, .int x3)] dX2_lead_23 (Nat.le_of_ble_eq_true rfl) rfl ?_
    refine go_aload_n 1 dX2_lead_25 rfl rfl ?_
    refine go_get 2 0 0 hcX2 inX2 (Nat.le_of_ble_eq_true rfl) wd229 rfl rfl dX2_lead_26 ?_
    refine go_iload_n 4 dX2_lead_29 rfl rfl ?_
    refine go_iload_n 4 dX2_lead_30 rfl rfl ?_
    refine go_iload_n 3 dX2_lead_31 rfl rfl ?_
    refine go_icmp_ne 44 hF dX2_lead_32 (by decide) (fun hF => ?_) (fun hF => ?_)
    · refine go_iload 0 dX2_lead_44 rfl ?_
      refine go_loc (L' := [(0, .ref a), (1, .int p1), (2, .int p2), (3, .int x3)]) [1, 2, 3, 4] rfl ?_
      exact G_X2_lead_46 N p1 p2 a a_crews s_a_awake s_a_hour s_a_seed hR k2 hk2 f_a_crews x3 x3 v2 hF
    · refine go_iload 0 dX2_lead_35 rfl ?_
      refine go_iconst (v := (1 : Int32)) dX2_lead_37 (by decide) ?_
      refine go_iload_n 2 dX2_lead_38 rfl rfl ?_
      refine go_ishl dX2_lead_39 ?_
      refine go_ior dX2_lead_40 ?_
      refine go_goto 46 dX2_lead_41 (by decide) ?_
      refine go_loc (L' := [(0, .ref a), (1, .int p1), (2, .int p2), (3, .int x3)]) [1, 2, 3, 4] rfl ?_
      exact G_X2_lead_46 N p1 p2 a a_crews s_a_awake s_a_hour s_a_seed hR k2 hk2 f_a_crews x3 x3 (v2 ||| ((1 : Int32) <<< (p1 &&& 31))) hF
theorem GL_X2_lead_2 {K : gK} {X : gX} {wi : va_W} {o : (Nat → Int32)} (N : Nat) (p1 : Int32) (p2 : Int32) (a : Nat) (a_crews : Nat) (s_a_awake : Int32) (s_a_hour : Int32) (s_a_seed : Int32) (hR : gR K X M_X2_lead wi (O_X2_lead K a a_crews s_a_awake s_a_hour s_a_seed o))  : ∀ (fuel : Nat) (f_a_crews : Nat → Int32) (x3 : Int32), F_X2_lead_2 N p1 p2  fuel f_a_crews x3 = some o → Go K X M_X2_lead 0 0 (C_X2_lead K a a_crews s_a_awake s_a_hour s_a_seed f_a_crews) [(0, .ref a), (1, .int p1), (2, .int p2), (3, .int x3)] 2 [] :=
  lq2_elim (fun self hs f_a_crews x3 hF => G_X2_lead_2 N p1 p2 a a_crews s_a_awake s_a_hour s_a_seed hR  self hs f_a_crews x3 hF)
noncomputable def F_X2_lead (N : Nat) (f_a_crews : Nat → Int32) (p1 : Int32) (p2 : Int32) : Option ((Nat → Int32)) := F_X2_lead_2 N p1 p2 N f_a_crews (0 : Int32)
set_option maxHeartbeats 4000000 in
theorem kn_X2_lead (K : gK) (N : Nat) (a : Nat) (a_crews : Nat) (s_a_awake : Int32) (s_a_hour : Int32) (s_a_seed : Int32) (f_a_crews : Nat → Int32) (p1 : Int32) (p2 : Int32) {o : (Nat → Int32)} (hF : F_X2_lead N f_a_crews p1 p2 = some o) : Kn K M_X2_lead [.ref a, .int p1, .int p2] (C_X2_lead K a a_crews s_a_awake s_a_hour s_a_seed f_a_crews) (O_X2_lead K a a_crews s_a_awake s_a_hour s_a_seed o) := by
  refine kn_of (by decide +kernel) (Nat.le_of_ble_eq_true rfl) (fun X hR => ?_)
  refine go_loc (L' := [(0, .ref a), (1, .int p1), (2, .int p2)]) [0, 1, 2] rfl ?_
  unfold F_X2_lead at hF
  refine go_iconst (v := (0 : Int32)) dX2_lead_0 (by decide) ?_
  refine go_istore_n [(3, .int (0 : Int32)), (0, .ref a), (1, .int p1), (2, .int p2)] dX2_lead_1 rfl (Nat.le_of_ble_eq_true rfl) rfl ?_
  refine go_loc (L' := [(0, .ref a), (1, .int p1), (2, .int p2), (3, .int (0 : Int32))]) [1, 2, 3, 0] rfl ?_
  exact GL_X2_lead_2 N p1 p2 a a_crews s_a_awake s_a_hour s_a_seed hR  N f_a_crews (0 : Int32) hF
theorem ok_X2_lead : gOkV M_X2_lead 2 := ⟨⟨wd589, wd69, by decide +kernel, by decide +kernel, by decide +kernel⟩, wd587, wd588⟩
def C_X2_draw (K : gK) (a : Nat) (a_crews : Nat) (s_a_awake : Int32) (s_a_hour : Int32) (s_a_seed : Int32) : va_W := [(a, .inr (2, [.ref a_crews, .int s_a_awake, .int s_a_hour, .int s_a_seed]))]
def M_X2_draw : gM := (yX2_draw, cX2_draw, 2, (some .int), { frames := 0, cells := 0, slots := 0, locals := 0 })
def O_X2_draw (K : gK) (a : Nat) (a_crews : Nat) (s_a_awake : Int32) (s_a_hour : Int32) (o : Int32 × Int32) : Option Value → va_W → Prop := fun r w => r = some (.int o.1) ∧ w = C_X2_draw K a a_crews s_a_awake s_a_hour o.2
noncomputable def F_X2_draw (s_a_seed : Int32) (p1 : Int32) : Option (Int32 × Int32) := nm (((s_a_seed.toInt64) * (1103515245 : Int64)) + (12345 : Int64)) (fun v1 => nm (v1 &&& (2147483647 : Int64)) (fun v2 => nm (v2.toInt32) (fun v3 => if p1 ≤ 0 then some ((0 : Int32), v3) else nm (v3 / (65536 : Int32)) (fun v4 => nz p1 (nm (v4 - v4 / p1 * p1) (fun v5 => some (v5, v3)))))))
set_option maxHeartbeats 4000000 in
theorem kn_X2_draw (K : gK) (a : Nat) (a_crews : Nat) (s_a_awake : Int32) (s_a_hour : Int32) (s_a_seed : Int32) (p1 : Int32) {o : Int32 × Int32} (hF : F_X2_draw s_a_seed p1 = some o) : Kn K M_X2_draw [.ref a, .int p1] (C_X2_draw K a a_crews s_a_awake s_a_hour s_a_seed) (O_X2_draw K a a_crews s_a_awake s_a_hour o) := by
  refine kn_of (by decide +kernel) (Nat.le_of_ble_eq_true rfl) (fun X hR => ?_)
  refine go_loc (L' := [(0, .ref a), (1, .int p1)]) [0, 1] rfl ?_
  unfold F_X2_draw at hF
  refine go_aload_n 0 dX2_draw_0 rfl rfl ?_
  refine go_aload_n 0 dX2_draw_1 rfl rfl ?_
  refine go_get 2 0 3 hcX2 inX2 (Nat.le_of_ble_eq_true rfl) wd242 rfl rfl dX2_draw_2 ?_
  refine go_i2l dX2_draw_5 ?_
  refine go_ldc2 (v := (1103515245 : Int64)) dX2_draw_6 wd624 ?_
  refine go_lmul dX2_draw_9 ?_
  refine go_ldc2 (v := (12345 : Int64)) dX2_draw_10 wd625 ?_
  refine go_ladd dX2_draw_13 ?_
  refine go_nml hF (fun v1 hF => ?_)
  refine go_ldc2 (v := (2147483647 : Int64)) dX2_draw_14 wd626 ?_
  refine go_land dX2_draw_17 ?_
  refine go_nml hF (fun v2 hF => ?_)
  refine go_l2i dX2_draw_18 ?_
  refine go_nmi hF (fun v3 hF => ?_)
  refine go_put 2 0 3 (C_X2_draw K a a_crews s_a_awake s_a_hour v3) hcX2 inX2 tyX2_ok nmX2 (Nat.le_of_ble_eq_true rfl) wd242 rfl rfl rfl rfl (Nat.le_of_ble_eq_true rfl) rfl dX2_draw_19 ?_
  refine go_iload_n 1 dX2_draw_22 rfl rfl ?_
  refine go_if_le 38 hF dX2_draw_23 (by decide) (fun hF => ?_) (fun hF => ?_)
  · refine go_iconst (v := (0 : Int32)) dX2_draw_38 (by decide) ?_
    exact go_iret (Om := O_X2_draw K a a_crews s_a_awake s_a_hour) hR hF dX2_draw_39 rfl rfl (Nat.zero_le _) (Nat.zero_le _) ⟨rfl, rfl⟩
  · refine go_aload_n 0 dX2_draw_26 rfl rfl ?_
    refine go_get 2 0 3 hcX2 inX2 (Nat.le_of_ble_eq_true rfl) wd242 rfl rfl dX2_draw_27 ?_
    refine go_ldc (v := (65536 : Int32)) dX2_draw_30 wd627 ?_
    refine go_idivK dX2_draw_32 (by decide) ?_
    refine go_nmi hF (fun v4 hF => ?_)
    refine go_iload_n 1 dX2_draw_33 rfl rfl ?_
    refine go_irem hF dX2_draw_34 (fun hF => ?_)
    refine go_nmi hF (fun v5 hF => ?_)
    refine go_goto 39 dX2_draw_35 (by decide) ?_
    exact go_iret (Om := O_X2_draw K a a_crews s_a_awake s_a_hour) hR hF dX2_draw_39 rfl rfl (Nat.zero_le _) (Nat.zero_le _) ⟨rfl, rfl⟩
theorem ok_X2_draw : gOkV M_X2_draw 1 := ⟨⟨wd623, wd69, by decide +kernel, by decide +kernel, by decide +kernel⟩, wd621, wd622⟩
def C_X2_lieAs (K : gK) (a : Nat) (a_crews : Nat) (b1 : Nat) (b1_crews : Nat) (s_a_awake : Int32) (s_a_hour : Int32) (s_a_seed : Int32) (f_a_crews : Nat → Int32) (s_b1_awake : Int32) (s_b1_hour : Int32) (s_b1_seed : Int32) (f_b1_crews : Nat → Int32) : va_W := [(a, .inr (2, [.ref a_crews, .int s_a_awake, .int s_a_hour, .int s_a_seed])), (a_crews, .inl (kI K, 4, .inl f_a_crews)), (b1, .inr (2, [.ref b1_crews, .int s_b1_awake, .int s_b1_hour, .int s_b1_seed])), (b1_crews, .inl (kI K, 4, .inl f_b1_crews))]
def M_X2_lieAs : gM := (yX2_lieAs, cX2_lieAs, 3, none, { frames := 1, cells := 0, slots := 0, locals := 21 })
def O_X2_lieAs (K : gK) (a : Nat) (a_crews : Nat) (b1 : Nat) (b1_crews : Nat) (s_a_awake : Int32) (s_a_hour : Int32) (s_a_seed : Int32) (s_b1_awake : Int32) (s_b1_hour : Int32) (s_b1_seed : Int32) (f_b1_crews : Nat → Int32) (o : (Nat → Int32)) : Option Value → va_W → Prop := fun r w => r = none ∧ w = C_X2_lieAs K a a_crews b1 b1_crews s_a_awake s_a_hour s_a_seed o s_b1_awake s_b1_hour s_b1_seed f_b1_crews
noncomputable def B_X2_lieAs_2 (N : Nat) (f_b1_crews : Nat → Int32) (k2 : (Nat → Int32) → Int32 → Option ((Nat → Int32))) (f_a_crews : Nat → Int32) (x2 : Int32) : Option ((Nat → Int32)) := if (4 : Int32) ≤ x2 then some f_a_crews else bnd (F_X8_at 4 f_b1_crews x2) (fun o1 => wr 4 f_a_crews x2 o1 (fun g2 => nm (x2 + (1 : Int32)) (fun v3 => k2 g2 v3)))
noncomputable def F_X2_lieAs_2 (N : Nat) (f_b1_crews : Nat → Int32)  : Nat → (Nat → Int32) → Int32 → Option ((Nat → Int32)) := lq2 (fun self => B_X2_lieAs_2 N f_b1_crews  self)
set_option maxHeartbeats 4000000 in
theorem G_X2_lieAs_2 {K : gK} {X : gX} {wi : va_W} {o : (Nat → Int32)} (N : Nat) (f_b1_crews : Nat → Int32) (a : Nat) (a_crews : Nat) (b1 : Nat) (b1_crews : Nat) (s_a_awake : Int32) (s_a_hour : Int32) (s_a_seed : Int32) (s_b1_awake : Int32) (s_b1_hour : Int32) (s_b1_seed : Int32) (hR : gR K X M_X2_lieAs wi (O_X2_lieAs K a a_crews b1 b1_crews s_a_awake s_a_hour s_a_seed s_b1_awake s_b1_hour s_b1_seed f_b1_crews o)) (k2 : (Nat → Int32) → Int32 → Option ((Nat → Int32))) (hk2 : ∀ (f_a_crews : Nat → Int32) (x2 : Int32), k2 f_a_crews x2 = some o → Go K X M_X2_lieAs 0 0 (C_X2_lieAs K a a_crews b1 b1_crews s_a_awake s_a_hour s_a_seed f_a_crews s_b1_awake s_b1_hour s_b1_seed f_b1_crews) [(0, .ref a), (1, .ref b1), (2, .int x2)] 2 []) (f_a_crews : Nat → Int32) (x2 : Int32) (hF : B_X2_lieAs_2 N f_b1_crews k2 f_a_crews x2 = some o) : Go K X M_X2_lieAs 0 0 (C_X2_lieAs K a a_crews b1 b1_crews s_a_awake s_a_hour s_a_seed f_a_crews s_b1_awake s_b1_hour s_b1_seed f_b1_crews) [(0, .ref a), (1, .ref b1), (2, .int x2)] 2 [] := by
  unfold B_X2_lieAs_2 at hF
  refine go_iload_n 2 dX2_lieAs_2 rfl rfl ?_
  refine go_aload_n 0 dX2_lieAs_3 rfl rfl ?_
  refine go_get 2 0 0 hcX2 inX2 (Nat.le_of_ble_eq_true rfl) wd229 rfl rfl dX2_lieAs_4 ?_
  refine go_alen (v := (4 : Int32)) 1 rfl rfl dX2_lieAs_7 ?_
  refine go_icmp_ge 31 hF dX2_lieAs_8 (by decide) (fun hF => ?_) (fun hF => ?_)
  · exact go_vret (Om := O_X2_lieAs K a a_crews b1 b1_crews s_a_awake s_a_hour s_a_seed s_b1_awake s_b1_hour s_b1_seed f_b1_crews) hR hF dX2_lieAs_31 rfl (Nat.zero_le _) (Nat.zero_le _) ⟨rfl, rfl⟩
  · refine go_aload_n 0 dX2_lieAs_11 rfl rfl ?_
    refine go_get 2 0 0 hcX2 inX2 (Nat.le_of_ble_eq_true rfl) wd229 rfl rfl dX2_lieAs_12 ?_
    refine go_iload_n 2 dX2_lieAs_15 rfl rfl ?_
    refine go_aload_n 1 dX2_lieAs_16 rfl rfl ?_
    refine go_get 2 2 0 hcX2 inX2 (Nat.le_of_ble_eq_true rfl) wd229 rfl rfl dX2_lieAs_17 ?_
    refine go_iload_n 2 dX2_lieAs_20 rfl rfl ?_
    obtain ⟨o1, ho1, hF⟩ := bnd_elim hF
    refine go_callSN (As := [.ref b1_crews, .int x2]) (rest := [.int x2, .ref a_crews]) (wr := [(a, .inr (2, [.ref a_crews, .int s_a_awake, .int s_a_hour, .int s_a_seed])), (a_crews, .inl (kI K, 4, .inl f_a_crews)), (b1, .inr (2, [.ref b1_crews, .int s_b1_awake, .int s_b1_hour, .int s_b1_seed]))]) (kn_X8_at K b1_crews 4 f_b1_crews x2 ho1) ok_X8_at ⟨Nat.le_of_ble_eq_true rfl, Nat.le_of_ble_eq_true rfl⟩ ⟨Nat.le_of_ble_eq_true rfl, Nat.le_of_ble_eq_true rfl⟩ ns21 rfl rfl (Nat.le_of_ble_eq_true rfl) dX2_lieAs_21 [3] [0, 1, 2] rfl rfl rfl rfl (by decide) (fun r wo hO => ?_)
    obtain ⟨rfl, rfl⟩ := hO
    refine go_ws (ws' := C_X2_lieAs K a a_crews b1 b1_crews s_a_awake s_a_hour s_a_seed f_a_crews s_b1_awake s_b1_hour s_b1_seed f_b1_crews) [0, 1, 2, 3] rfl rfl ?_
    refine go_eq (pc' := 24) (st' := [.int o1, .int x2, .ref a_crews]) rfl rfl ?_
    refine go_iast 1 (fun y => C_X2_lieAs K a a_crews b1 b1_crews s_a_awake s_a_hour s_a_seed y s_b1_awake s_b1_hour s_b1_seed f_b1_crews) hF rfl (fun _ => rfl) dX2_lieAs_24 (fun g2 hF => ?_)
    refine go_iinc 2 (fun y => [(2, .int y), (0, .ref a), (1, .ref b1)]) hF dX2_lieAs_25 rfl rfl (Nat.le_of_ble_eq_true rfl) (fun _ => rfl) (fun v3 hF => ?_)
    refine go_goto 2 dX2_lieAs_28 (by decide) ?_
    refine go_loc (L' := [(0, .ref a), (1, .ref b1), (2, .int v3)]) [1, 2, 0] rfl ?_
    exact hk2 g2 v3 hF
theorem GL_X2_lieAs_2 {K : gK} {X : gX} {wi : va_W} {o : (Nat → Int32)} (N : Nat) (f_b1_crews : Nat → Int32) (a : Nat) (a_crews : Nat) (b1 : Nat) (b1_crews : Nat) (s_a_awake : Int32) (s_a_hour : Int32) (s_a_seed : Int32) (s_b1_awake : Int32) (s_b1_hour : Int32) (s_b1_seed : Int32) (hR : gR K X M_X2_lieAs wi (O_X2_lieAs K a a_crews b1 b1_crews s_a_awake s_a_hour s_a_seed s_b1_awake s_b1_hour s_b1_seed f_b1_crews o))  : ∀ (fuel : Nat) (f_a_crews : Nat → Int32) (x2 : Int32), F_X2_lieAs_2 N f_b1_crews  fuel f_a_crews x2 = some o → Go K X M_X2_lieAs 0 0 (C_X2_lieAs K a a_crews b1 b1_crews s_a_awake s_a_hour s_a_seed f_a_crews s_b1_awake s_b1_hour s_b1_seed f_b1_crews) [(0, .ref a), (1, .ref b1), (2, .int x2)] 2 [] :=
  lq2_elim (fun self hs f_a_crews x2 hF => G_X2_lieAs_2 N f_b1_crews a a_crews b1 b1_crews s_a_awake s_a_hour s_a_seed s_b1_awake s_b1_hour s_b1_seed hR  self hs f_a_crews x2 hF)
noncomputable def F_X2_lieAs (N : Nat) (f_a_crews : Nat → Int32) (f_b1_crews : Nat → Int32) : Option ((Nat → Int32)) := F_X2_lieAs_2 N f_b1_crews N f_a_crews (0 : Int32)
set_option maxHeartbeats 4000000 in
theorem kn_X2_lieAs (K : gK) (N : Nat) (a : Nat) (a_crews : Nat) (b1 : Nat) (b1_crews : Nat) (s_a_awake : Int32) (s_a_hour : Int32) (s_a_seed : Int32) (s_b1_awake : Int32) (s_b1_hour : Int32) (s_b1_seed : Int32) (f_a_crews : Nat → Int32) (f_b1_crews : Nat → Int32) {o : (Nat → Int32)} (hF : F_X2_lieAs N f_a_crews f_b1_crews = some o) : Kn K M_X2_lieAs [.ref a, .ref b1] (C_X2_lieAs K a a_crews b1 b1_crews s_a_awake s_a_hour s_a_seed f_a_crews s_b1_awake s_b1_hour s_b1_seed f_b1_crews) (O_X2_lieAs K a a_crews b1 b1_crews s_a_awake s_a_hour s_a_seed s_b1_awake s_b1_hour s_b1_seed f_b1_crews o) := by
  refine kn_of (by decide +kernel) (Nat.le_of_ble_eq_true rfl) (fun X hR => ?_)
  refine go_loc (L' := [(0, .ref a), (1, .ref b1)]) [0, 1] rfl ?_
  unfold F_X2_lieAs at hF
  refine go_iconst (v := (0 : Int32)) dX2_lieAs_0 (by decide) ?_
  refine go_istore_n [(2, .int (0 : Int32)), (0, .ref a), (1, .ref b1)] dX2_lieAs_1 rfl (Nat.le_of_ble_eq_true rfl) rfl ?_
  refine go_loc (L' := [(0, .ref a), (1, .ref b1), (2, .int (0 : Int32))]) [1, 2, 0] rfl ?_
  exact GL_X2_lieAs_2 N f_b1_crews a a_crews b1 b1_crews s_a_awake s_a_hour s_a_seed s_b1_awake s_b1_hour s_b1_seed hR  N f_a_crews (0 : Int32) hF
theorem ok_X2_lieAs : gOkV M_X2_lieAs 1 := ⟨⟨wd745, wd69, by decide +kernel, by decide +kernel, by decide +kernel⟩, wd743, wd744⟩
