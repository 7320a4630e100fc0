def C_X8_lay (K : gK) (b0 : Nat) (n_b0 : Nat) (f_b0 : Nat → Int32) : va_W := [(b0, .inl (kI K, n_b0, .inl f_b0))]
def M_X8_lay : gM := (yX8_lay, cX8_lay, 3, none, { frames := 0, cells := 0, slots := 0, locals := 0 })
def O_X8_lay (K : gK) (b0 : Nat) (n_b0 : Nat) (o : (Nat → Int32)) : Option Value → va_W → Prop := fun r w => r = none ∧ w = C_X8_lay K b0 n_b0 o
noncomputable def F_X8_lay (n_b0 : Nat) (f_b0 : Nat → Int32) (p1 : Int32) (p2 : Int32) : Option ((Nat → Int32)) := if p1 < 0 then some f_b0 else if (Int32.ofNat n_b0) ≤ p1 then some f_b0 else wr n_b0 f_b0 p1 p2 (fun g1 => some g1)
set_option maxHeartbeats 4000000 in
theorem kn_X8_lay (K : gK) (b0 : Nat) (n_b0 : Nat) (f_b0 : Nat → Int32) (p1 : Int32) (p2 : Int32) {o : (Nat → Int32)} (hF : F_X8_lay n_b0 f_b0 p1 p2 = some o) : Kn K M_X8_lay [.ref b0, .int p1, .int p2] (C_X8_lay K b0 n_b0 f_b0) (O_X8_lay K b0 n_b0 o) := by
  refine kn_of (by decide +kernel) (Nat.le_of_ble_eq_true rfl) (fun X hR => ?_)
  refine go_loc (L' := [(0, .ref b0), (1, .int p1), (2, .int p2)]) [0, 1, 2] rfl ?_
  unfold F_X8_lay at hF
  refine go_iload_n 1 dX8_lay_0 rfl rfl ?_
  refine go_if_lt 14 hF dX8_lay_1 (by decide) (fun hF => ?_) (fun hF => ?_)
  · exact go_vret (Om := O_X8_lay K b0 n_b0) hR hF dX8_lay_14 rfl (Nat.zero_le _) (Nat.zero_le _) ⟨rfl, rfl⟩
  · refine go_iload_n 1 dX8_lay_4 rfl rfl ?_
    refine go_aload_n 0 dX8_lay_5 rfl rfl ?_
    refine go_alen (v := (Int32.ofNat n_b0)) 0 rfl rfl dX8_lay_6 ?_
    refine go_icmp_ge 14 hF dX8_lay_7 (by decide) (fun hF => ?_) (fun hF => ?_)
    · exact go_vret (Om := O_X8_lay K b0 n_b0) hR hF dX8_lay_14 rfl (Nat.zero_le _) (Nat.zero_le _) ⟨rfl, rfl⟩
    · refine go_aload_n 0 dX8_lay_10 rfl rfl ?_
      refine go_iload_n 1 dX8_lay_11 rfl rfl ?_
      refine go_iload_n 2 dX8_lay_12 rfl rfl ?_
      refine go_iast 0 (fun y => C_X8_lay K b0 n_b0 y) hF rfl (fun _ => rfl) dX8_lay_13 (fun g1 hF => ?_)
      exact go_vret (Om := O_X8_lay K b0 n_b0) hR hF dX8_lay_14 rfl (Nat.zero_le _) (Nat.zero_le _) ⟨rfl, rfl⟩
theorem ok_X8_lay : gOkS M_X8_lay 3 := ⟨⟨wd413, wd64, by decide +kernel, by decide +kernel, by decide +kernel⟩, wd412⟩
def C_J7_fill_53178 (K : gK) (b0 : Nat) (n_b0 : Nat) (f_b0 : Nat → Int32) : va_W := [(b0, .inl (kI K, n_b0, .inl f_b0))]
def M_J7_fill_53178 : gM := (yJ7_fill_53178, cJ7_fill_53178, 4, none, { frames := 0, cells := 0, slots := 0, locals := 0 })
def O_J7_fill_53178 (K : gK) (b0 : Nat) (n_b0 : Nat) (o : (Nat → Int32)) : Option Value → va_W → Prop := fun r w => r = none ∧ w = C_J7_fill_53178 K b0 n_b0 o
noncomputable def B_J7_fill_53178_5 (N : Nat) (n_b0 : Nat) (p1 : Int32) (k5 : (Nat → Int32) → Int32 → Int32 → Option ((Nat → Int32))) (f_b0 : Nat → Int32) (x2 : Int32) (x3 : Int32) : Option ((Nat → Int32)) := if x3 ≤ x2 then some f_b0 else wr n_b0 f_b0 x2 p1 (fun g2 => nm (x2 + (1 : Int32)) (fun v3 => k5 g2 v3 x3))
noncomputable def F_J7_fill_53178_5 (N : Nat) (n_b0 : Nat) (p1 : Int32)  : Nat → (Nat → Int32) → Int32 → Int32 → Option ((Nat → Int32)) := lq3 (fun self => B_J7_fill_53178_5 N n_b0 p1  self)
set_option maxHeartbeats 4000000 in
theorem G_J7_fill_53178_5 {K : gK} {X : gX} {wi : va_W} {o : (Nat → Int32)} (N : Nat) (n_b0 : Nat) (p1 : Int32) (b0 : Nat) (hR : gR K X M_J7_fill_53178 wi (O_J7_fill_53178 K b0 n_b0 o)) (k5 : (Nat → Int32) → Int32 → Int32 → Option ((Nat → Int32))) (hk5 : ∀ (f_b0 : Nat → Int32) (x2 : Int32) (x3 : Int32), k5 f_b0 x2 x3 = some o → Go K X M_J7_fill_53178 0 0 (C_J7_fill_53178 K b0 n_b0 f_b0) [(0, .ref b0), (1, .int p1), (2, .int x2), (3, .int x3)] 5 []) (f_b0 : Nat → Int32) (x2 : Int32) (x3 : Int32) (hF : B_J7_fill_53178_5 N n_b0 p1 k5 f_b0 x2 x3 = some o) : Go K X M_J7_fill_53178 0 0 (C_J7_fill_53178 K b0 n_b0 f_b0) [(0, .ref b0), (1, .int p1), (2, .int x2), (3, .int x3)] 5 [] := by
  unfold B_J7_fill_53178_5 at hF
  refine go_iload_n 2 dJ7_fill_53178_5 rfl rfl ?_
  refine go_iload_n 3 dJ7_fill_53178_6 rfl rfl ?_
  refine go_icmp_ge 20 hF dJ7_fill_53178_7 (by decide) (fun hF => ?_) (fun hF => ?_)
  · exact go_vret (Om := O_J7_fill_53178 K b0 n_b0) hR hF dJ7_fill_53178_20 rfl (Nat.zero_le _) (Nat.zero_le _) ⟨rfl, rfl⟩
  · refine go_aload_n 0 dJ7_fill_53178_10 rfl rfl ?_
    refine go_iload_n 2 dJ7_fill_53178_11 rfl rfl ?_
    refine go_iload_n 1 dJ7_fill_53178_12 rfl rfl ?_
    refine go_iast 0 (fun y => C_J7_fill_53178 K b0 n_b0 y) hF rfl (fun _ => rfl) dJ7_fill_53178_13 (fun g2 hF => ?_)
    refine go_iinc 2 (fun y => [(2, .int y), (0, .ref b0), (1, .int p1), (3, .int x3)]) hF dJ7_fill_53178_14 rfl rfl (Nat.le_of_ble_eq_true rfl) (fun _ => rfl) (fun v3 hF => ?_)
    refine go_goto 5 dJ7_fill_53178_17 (by decide) ?_
    refine go_loc (L' := [(0, .ref b0), (1, .int p1), (2, .int v3), (3, .int x3)]) [1, 2, 0, 3] rfl ?_
    exact hk5 g2 v3 x3 hF
theorem GL_J7_fill_53178_5 {K : gK} {X : gX} {wi : va_W} {o : (Nat → Int32)} (N : Nat) (n_b0 : Nat) (p1 : Int32) (b0 : Nat) (hR : gR K X M_J7_fill_53178 wi (O_J7_fill_53178 K b0 n_b0 o))  : ∀ (fuel : Nat) (f_b0 : Nat → Int32) (x2 : Int32) (x3 : Int32), F_J7_fill_53178_5 N n_b0 p1  fuel f_b0 x2 x3 = some o → Go K X M_J7_fill_53178 0 0 (C_J7_fill_53178 K b0 n_b0 f_b0) [(0, .ref b0), (1, .int p1), (2, .int x2), (3, .int x3)] 5 [] :=
  lq3_elim (fun self hs f_b0 x2 x3 hF => G_J7_fill_53178_5 N n_b0 p1 b0 hR  self hs f_b0 x2 x3 hF)
noncomputable def F_J7_fill_53178 (N : Nat) (n_b0 : Nat) (f_b0 : Nat → Int32) (p1 : Int32) : Option ((Nat → Int32)) := nm (Int32.ofNat n_b0) (fun v1 => F_J7_fill_53178_5 N n_b0 p1 N f_b0 (0 : Int32) v1)
set_option maxHeartbeats 4000000 in
theorem kn_J7_fill_53178 (K : gK) (N : Nat) (b0 : Nat) (n_b0 : Nat) (f_b0 : Nat → Int32) (p1 : Int32) {o : (Nat → Int32)} (hF : F_J7_fill_53178 N n_b0 f_b0 p1 = some o) : Kn K M_J7_fill_53178 [.ref b0, .int p1] (C_J7_fill_53178 K b0 n_b0 f_b0) (O_J7_fill_53178 K b0 n_b0 o) := by
  refine kn_of (by decide +kernel) (Nat.le_of_ble_eq_true rfl) (fun X hR => ?_)
  refine go_loc (L' := [(0, .ref b0), (1, .int p1)]) [0, 1] rfl ?_
  unfold F_J7_fill_53178 at hF
  refine go_iconst (v := (0 : Int32)) dJ7_fill_53178_0 (by decide) ?_
  refine go_istore_n [(2, .int (0 : Int32)), (0, .ref b0), (1, .int p1)] dJ7_fill_53178_1 rfl (Nat.le_of_ble_eq_true rfl) rfl ?_
  refine go_aload_n 1 dJ7_fill_53178_2 rfl rfl ?_
  refine go_alen (v := (Int32.ofNat n_b0)) 0 rfl rfl dJ7_fill_53178_3 ?_
  refine go_nmi hF (fun v1 hF => ?_)
  refine go_istore_n [(3, .int v1), (2, .int (0 : Int32)), (0, .ref b0), (1, .int p1)] dJ7_fill_53178_4 rfl (Nat.le_of_ble_eq_true rfl) rfl ?_
  refine go_loc (L' := [(0, .ref b0), (1, .int p1), (2, .int (0 : Int32)), (3, .int v1)]) [2, 3, 1, 0] rfl ?_
  exact GL_J7_fill_53178_5 N n_b0 p1 b0 hR  N f_b0 (0 : Int32) v1 hF
theorem ok_J7_fill_53178 : gOkS M_J7_fill_53178 2 := ⟨⟨wd128, wd67, by decide +kernel, by decide +kernel, by decide +kernel⟩, wd127⟩
def C_X8_at (K : gK) (b0 : Nat) (n_b0 : Nat) (f_b0 : Nat → Int32) : va_W := [(b0, .inl (kI K, n_b0, .inl f_b0))]
def M_X8_at : gM := (yX8_at, cX8_at, 2, (some .int), { frames := 0, cells := 0, slots := 0, locals := 0 })
def O_X8_at (K : gK) (b0 : Nat) (n_b0 : Nat) (f_b0 : Nat → Int32) (o : Int32) : Option Value → va_W → Prop := fun r w => r = some (.int o) ∧ w = C_X8_at K b0 n_b0 f_b0
noncomputable def F_X8_at (n_b0 : Nat) (f_b0 : Nat → Int32) (p1 : Int32) : Option (Int32) := if p1 < 0 then some (0 : Int32) else if (Int32.ofNat n_b0) ≤ p1 then some (0 : Int32) else rd n_b0 f_b0 p1 (fun v1 => some v1)
set_option maxHeartbeats 4000000 in
theorem kn_X8_at (K : gK) (b0 : Nat) (n_b0 : Nat) (f_b0 : Nat → Int32) (p1 : Int32) {o : Int32} (hF : F_X8_at n_b0 f_b0 p1 = some o) : Kn K M_X8_at [.ref b0, .int p1] (C_X8_at K b0 n_b0 f_b0) (O_X8_at K b0 n_b0 f_b0 o) := by
  refine kn_of (by decide +kernel) (Nat.le_of_ble_eq_true rfl) (fun X hR => ?_)
  refine go_loc (L' := [(0, .ref b0), (1, .int p1)]) [0, 1] rfl ?_
  unfold F_X8_at at hF
  refine go_iload_n 1 dX8_at_0 rfl rfl ?_
  refine go_if_lt 16 hF dX8_at_1 (by decide) (fun hF => ?_) (fun hF => ?_)
  · refine go_iconst (v := (0 : Int32)) dX8_at_16 (by decide) ?_
    exact go_iret (Om := O_X8_at K b0 n_b0 f_b0) hR hF dX8_at_17 rfl rfl (Nat.zero_le _) (Nat.zero_le _) ⟨rfl, rfl⟩
  · refine go_iload_n 1 dX8_at_4 rfl rfl ?_
    refine go_aload_n 0 dX8_at_5 rfl rfl ?_
    refine go_alen (v := (Int32.ofNat n_b0)) 0 rfl rfl dX8_at_6 ?_
    refine go_icmp_ge 16 hF dX8_at_7 (by decide) (fun hF => ?_) (fun hF => ?_)
    · refine go_iconst (v := (0 : Int32)) dX8_at_16 (by decide) ?_
      exact go_iret (Om := O_X8_at K b0 n_b0 f_b0) hR hF dX8_at_17 rfl rfl (Nat.zero_le _) (Nat.zero_le _) ⟨rfl, rfl⟩
    · refine go_aload_n 0 dX8_at_10 rfl rfl ?_
      refine go_iload_n 1 dX8_at_11 rfl rfl ?_
      refine go_iald 0 hF rfl dX8_at_12 (fun v1 hF => ?_)
      refine go_goto 17 dX8_at_13 (by decide) ?_
      exact go_iret (Om := O_X8_at K b0 n_b0 f_b0) hR hF dX8_at_17 rfl rfl (Nat.zero_le _) (Nat.zero_le _) ⟨rfl, rfl⟩
theorem ok_X8_at : gOkS M_X8_at 2 := ⟨⟨wd430, wd64, by decide +kernel, by decide +kernel, by decide +kernel⟩, wd429⟩
def C_X8_apart (K : gK)  : va_W := []
def M_X8_apart : gM := (yX8_apart, cX8_apart, 3, (some .int), { frames := 1, cells := 0, slots := 0, locals := 21 })
def O_X8_apart (K : gK)  (o : Int32) : Option Value → va_W → Prop := fun r w => r = some (.int o) ∧ w = C_X8_apart K 
noncomputable def F_X8_apart (p0 : Int32) (p1 : Int32) : Option (Int32) := nm (if 0 ≤ (p0 - p1) then (p0 - p1) else 0 - (p0 - p1)) (fun v1 => nm (if ((12 : Int32) - v1) < v1 then ((12 : Int32) - v1) else v1) (fun v2 => some v2))
set_option maxHeartbeats 4000000 in
theorem kn_X8_apart (K : gK) (p0 : Int32) (p1 : Int32) {o : Int32} (hF : F_X8_apart p0 p1 = some o) : Kn K M_X8_apart [.int p0, .int p1] (C_X8_apart K ) (O_X8_apart K  o) := by
  refine kn_of (by decide +kernel) (Nat.le_of_ble_eq_true rfl) (fun X hR => ?_)
  refine go_loc (L' := [(0, .int p0), (1, .int p1)]) [0, 1] rfl ?_
  unfold F_X8_apart at hF
  refine go_iload_n 0 dX8_apart_0 rfl rfl ?_
  refine go_iload_n 1 dX8_apart_1 rfl rfl ?_
  refine go_isub dX8_apart_2 ?_
  refine go_mabs wd491 (Nat.le_of_ble_eq_true rfl) (Nat.le_of_ble_eq_true rfl) (Nat.zero_le _) (Nat.zero_le _) dX8_apart_3 ?_
  refine go_nmi hF (fun v1 hF => ?_)
  refine go_istore_n [(2, .int v1), (0, .int p0), (1, .int p1)] dX8_apart_6 rfl (Nat.le_of_ble_eq_true rfl) rfl ?_
  refine go_iload_n 0 dX8_apart_7 rfl rfl ?_
  refine go_bipush (v := (12 : Int32)) dX8_apart_8 (by decide) ?_
  refine go_iload_n 0 dX8_apart_10 rfl rfl ?_
  refine go_isub dX8_apart_11 ?_
  refine go_mmin wd494 (Nat.le_of_ble_eq_true rfl) (Nat.le_of_ble_eq_true rfl) (Nat.zero_le _) (Nat.zero_le _) dX8_apart_12 ?_
  refine go_nmi hF (fun v2 hF => ?_)
  exact go_iret (Om := O_X8_apart K ) hR hF dX8_apart_15 rfl rfl (Nat.zero_le _) (Nat.zero_le _) ⟨rfl, rfl⟩
theorem ok_X8_apart : gOkS M_X8_apart 2 := ⟨⟨wd490, wd64, by decide +kernel, by decide +kernel, by decide +kernel⟩, wd489⟩
def C_X8_carOf (K : gK) (b0 : Nat) (n_b0 : Nat) (f_b0 : Nat → Int32) : va_W := [(b0, .inl (kI K, n_b0, .inl f_b0))]
def M_X8_carOf : gM := (yX8_carOf, cX8_carOf, 3, (some .int), { frames := 0, cells := 0, slots := 0, locals := 0 })
def O_X8_carOf (K : gK) (b0 : Nat) (n_b0 : Nat) (f_b0 : Nat → Int32) (o : Int32) : Option Value → va_W → Prop := fun r w => r = some (.int o) ∧ w = C_X8_carOf K b0 n_b0 f_b0
noncomputable def B_X8_carOf_2 (N : Nat) (n_b0 : Nat) (f_b0 : Nat → Int32) (p1 : Int32) (k2 : Int32 → Option (Int32)) (x2 : Int32) : Option (Int32) := if (Int32.ofNat n_b0) ≤ x2 then some (-1 : Int32) else rd n_b0 f_b0 x2 (fun v1 => if ((v1 >>> (p1 &&& 31)) &&& (1 : Int32)) = (1 : Int32) then some x2 else nm (x2 + (1 : Int32)) (fun v2 => k2 v2))
noncomputable def F_X8_carOf_2 (N : Nat) (n_b0 : Nat) (f_b0 : Nat → Int32) (p1 : Int32)  : Nat → Int32 → Option (Int32) := lq1 (fun self => B_X8_carOf_2 N n_b0 f_b0 p1  self)
set_option maxHeartbeats 4000000 in
theorem G_X8_carOf_2 {K : gK} {X : gX} {wi : va_W} {o : Int32} (N : Nat) (n_b0 : Nat) (f_b0 : Nat → Int32) (p1 : Int32) (b0 : Nat) (hR : gR K X M_X8_carOf wi (O_X8_carOf K b0 n_b0 f_b0 o)) (k2 : Int32 → Option (Int32)) (hk2 : ∀ (x2 : Int32), k2 x2 = some o → Go K X M_X8_carOf 0 0 (C_X8_carOf K b0 n_b0 f_b0) [(0, .ref b0), (1, .int p1), (2, .int x2)] 2 []) (x2 : Int32) (hF : B_X8_carOf_2 N n_b0 f_b0 p1 k2 x2 = some o) : Go K X M_X8_carOf 0 0 (C_X8_carOf K b0 n_b0 f_b0) [(0, .ref b0), (1, .int p1), (2, .int x2)] 2 [] := by
  unfold B_X8_carOf_2 at hF
  refine go_iload_n 2 dX8_carOf_2 rfl rfl ?_
  refine go_aload_n 0 dX8_carOf_3 rfl rfl ?_
  refine go_alen (v := (Int32.ofNat n_b0)) 0 rfl rfl dX8_carOf_4 ?_
  refine go_icmp_ge 27 hF dX8_carOf_5 (by decide) (fun hF => ?_) (fun hF => ?_)
  · refine go_iconst (v := (-1 : Int32)) dX8_carOf_27 (by decide) ?_
    exact go_iret (Om := O_X8_carOf K b0 n_b0 f_b0) hR hF dX8_carOf_28 rfl rfl (Nat.zero_le _) (Nat.zero_le _) ⟨rfl, rfl⟩
  · refine go_aload_n 0 dX8_carOf_8 rfl rfl ?_
    refine go_iload_n 2 dX8_carOf_9 rfl rfl ?_
    refine go_iald 0 hF rfl dX8_carOf_10 (fun v1 hF => ?_)
    refine go_iload_n 1 dX8_carOf_11 rfl rfl ?_
    refine go_ishr dX8_carOf_12 ?_
    refine go_iconst (v := (1 : Int32)) dX8_carOf_13 (by decide) ?_
    refine go_iand dX8_carOf_14 ?_
    refine go_iconst (v := (1 : Int32)) dX8_carOf_15 (by decide) ?_
    refine go_icmp_ne 21 hF dX8_carOf_16 (by decide) (fun hF => ?_) (fun hF => ?_)
    · refine go_iinc 2 (fun y => [(2, .int y), (0, .ref b0), (1, .int p1)]) hF dX8_carOf_21 rfl rfl (Nat.le_of_ble_eq_true rfl) (fun _ => rfl) (fun v2 hF => ?_)
      refine go_goto 2 dX8_carOf_24 (by decide) ?_
      refine go_loc (L' := [(0, .ref b0), (1, .int p1), (2, .int v2)]) [1, 2, 0] rfl ?_
      exact hk2 v2 hF
    · refine go_iload_n 2 dX8_carOf_19 rfl rfl ?_
      exact go_iret (Om := O_X8_carOf K b0 n_b0 f_b0) hR hF dX8_carOf_20 rfl rfl (Nat.zero_le _) (Nat.zero_le _) ⟨rfl, rfl⟩
theorem GL_X8_carOf_2 {K : gK} {X : gX} {wi : va_W} {o : Int32} (N : Nat) (n_b0 : Nat) (f_b0 : Nat → Int32) (p1 : Int32) (b0 : Nat) (hR : gR K X M_X8_carOf wi (O_X8_carOf K b0 n_b0 f_b0 o))  : ∀ (fuel : Nat) (x2 : Int32), F_X8_carOf_2 N n_b0 f_b0 p1  fuel x2 = some o → Go K X M_X8_carOf 0 0 (C_X8_carOf K b0 n_b0 f_b0) [(0, .ref b0), (1, .int p1), (2, .int x2)] 2 [] :=
  lq1_elim (fun self hs x2 hF => G_X8_carOf_2 N n_b0 f_b0 p1 b0 hR  self hs x2 hF)
noncomputable def F_X8_carOf (N : Nat) (n_b0 : Nat) (f_b0 : Nat → Int32) (p1 : Int32) : Option (Int32) := F_X8_carOf_2 N n_b0 f_b0 p1 N (0 : Int32)
set_option maxHeartbeats 4000000 in
theorem kn_X8_carOf (K : gK) (N : Nat) (b0 : Nat) (n_b0 : Nat) (f_b0 : Nat → Int32) (p1 : Int32) {o : Int32} (hF : F_X8_carOf N n_b0 f_b0 p1 = some o) : Kn K M_X8_carOf [.ref b0, .int p1] (C_X8_carOf K b0 n_b0 f_b0) (O_X8_carOf K b0 n_b0 f_b0 o) := by
  refine kn_of (by decide +kernel) (Nat.le_of_ble_eq_true rfl) (fun X hR => ?_)
  refine go_loc (L' := [(0, .ref b0), (1, .int p1)]) [0, 1] rfl ?_
  unfold F_X8_carOf at hF
  refine go_iconst (v := (0 : Int32)) dX8_carOf_0 (by decide) ?_
  refine go_istore_n [(2, .int (0 : Int32)), (0, .ref b0), (1, .int p1)] dX8_carOf_1 rfl (Nat.le_of_ble_eq_true rfl) rfl ?_
  refine go_loc (L' := [(0, .ref b0), (1, .int p1), (2, .int (0 : Int32))]) [1, 2, 0] rfl ?_
  exact GL_X8_carOf_2 N n_b0 f_b0 p1 b0 hR  N (0 : Int32) hF
theorem ok_X8_carOf : gOkS M_X8_carOf 2 := ⟨⟨wd548, wd64, by decide +kernel, by decide +kernel, by decide +kernel⟩, wd547⟩
def C_J6_bitCount_0f7a4 (K : gK)  : va_W := []
def M_J6_bitCount_0f7a4 : gM := (yJ6_bitCount_0f7a4, cJ6_bitCount_0f7a4, 1, (some .int), { frames := 0, cells := 0, slots := 0, locals := 0 })
def O_J6_bitCount_0f7a4 (K : gK)  (o : Int32) : Option Value → va_W → Prop := fun r w => r = some (.int o) ∧ w = C_J6_bitCount_0f7a4 K 
noncomputable def F_J6_bitCount_0f7a4 (p0 : Int32) : Option (Int32) := nm ((p0.toUInt32 >>> ((1 : Int32).toUInt32 &&& Int32.toUInt32 31)).toInt32) (fun v1 => nm (p0 - (v1 &&& (1431655765 : Int32))) (fun v2 => nm ((v2.toUInt32 >>> ((2 : Int32).toUInt32 &&& Int32.toUInt32 31)).toInt32) (fun v3 => nm ((v2 &&& (858993459 : Int32)) + (v3 &&& (858993459 : Int32))) (fun v4 => nm ((v4.toUInt32 >>> ((4 : Int32).toUInt32 &&& Int32.toUInt32 31)).toInt32) (fun v5 => nm ((v4 + v5) &&& (252645135 : Int32)) (fun v6 => nm ((v6.toUInt32 >>> ((8 : Int32).toUInt32 &&& Int32.toUInt32 31)).toInt32) (fun v7 => nm (v6 + v7) (fun v8 => nm ((v8.toUInt32 >>> ((16 : Int32).toUInt32 &&& Int32.toUInt32 31)).toInt32) (fun v9 => nm (v8 + v9) (fun v10 => some (v10 &&& (63 : Int32))))))))))))
set_option maxHeartbeats 4000000 in
theorem kn_J6_bitCount_0f7a4 (K : gK) (p0 : Int32) {o : Int32} (hF : F_J6_bitCount_0f7a4 p0 = some o) : Kn K M_J6_bitCount_0f7a4 [.int p0] (C_J6_bitCount_0f7a4 K ) (O_J6_bitCount_0f7a4 K  o) := by
  refine kn_of (by decide +kernel) (Nat.le_of_ble_eq_true rfl) (fun X hR => ?_)
  refine go_loc (L' := [(0, .int p0)]) [0] rfl ?_
  unfold F_J6_bitCount_0f7a4 at hF
  refine go_iload_n 0 dJ6_bitCount_0f7a4_0 rfl rfl ?_
  refine go_iload_n 0 dJ6_bitCount_0f7a4_1 rfl rfl ?_
  refine go_iconst (v := (1 : Int32)) dJ6_bitCount_0f7a4_2 (by decide) ?_
  refine go_iushr dJ6_bitCount_0f7a4_3 ?_
  refine go_nmi hF (fun v1 hF => ?_)
  refine go_ldcw (v := (1431655765 : Int32)) dJ6_bitCount_0f7a4_4 wd572 ?_
  refine go_iand dJ6_bitCount_0f7a4_7 ?_
  refine go_isub dJ6_bitCount_0f7a4_8 ?_
  refine go_nmi hF (fun v2 hF => ?_)
  refine go_istore_n [(0, .int v2)] dJ6_bitCount_0f7a4_9 rfl (Nat.le_of_ble_eq_true rfl) rfl ?_
  refine go_iload_n 0 dJ6_bitCount_0f7a4_10 rfl rfl ?_
  refine go_ldcw (v := (858993459 : Int32)) dJ6_bitCount_0f7a4_11 wd573 ?_
  refine go_iand dJ6_bitCount_0f7a4_14 ?_
  refine go_iload_n 0 dJ6_bitCount_0f7a4_15 rfl rfl ?_
  refine go_iconst (v := (2 : Int32)) dJ6_bitCount_0f7a4_16 (by decide) ?_
  refine go_iushr dJ6_bitCount_0f7a4_17 ?_
  refine go_nmi hF (fun v3 hF => ?_)
  refine go_ldcw (v := (858993459 : Int32)) dJ6_bitCount_0f7a4_18 wd573 ?_
  refine go_iand dJ6_bitCount_0f7a4_21 ?_
  refine go_iadd dJ6_bitCount_0f7a4_22 ?_
  refine go_nmi hF (fun v4 hF => ?_)
  refine go_istore_n [(0, .int v4)] dJ6_bitCount_0f7a4_23 rfl (Nat.le_of_ble_eq_true rfl) rfl ?_
  refine go_iload_n 0 dJ6_bitCount_0f7a4_24 rfl rfl ?_
  refine go_iload_n 0 dJ6_bitCount_0f7a4_25 rfl rfl ?_
  refine go_iconst (v := (4 : Int32)) dJ6_bitCount_0f7a4_26 (by decide) ?_
  refine go_iushr dJ6_bitCount_0f7a4_27 ?_
  refine go_nmi hF (fun v5 hF => ?_)
  refine go_iadd dJ6_bitCount_0f7a4_28 ?_
  refine go_ldcw (v := (252645135 : Int32)) dJ6_bitCount_0f7a4_29 wd574 ?_
  refine go_iand dJ6_bitCount_0f7a4_32 ?_
  refine go_nmi hF (fun v6 hF => ?_)
  refine go_istore_n [(0, .int v6)] dJ6_bitCount_0f7a4_33 rfl (Nat.le_of_ble_eq_true rfl) rfl ?_
  refine go_iload_n 0 dJ6_bitCount_0f7a4_34 rfl rfl ?_
  refine go_iload_n 0 dJ6_bitCount_0f7a4_35 rfl rfl ?_
  refine go_bipush (v := (8 : Int32)) dJ6_bitCount_0f7a4_36 (by decide) ?_
  refine go_iushr dJ6_bitCount_0f7a4_38 ?_
  refine go_nmi hF (fun v7 hF => ?_)
  refine go_iadd dJ6_bitCount_0f7a4_39 ?_
  refine go_nmi hF (fun v8 hF => ?_)
  refine go_istore_n [(0, .int v8)] dJ6_bitCount_0f7a4_40 rfl (Nat.le_of_ble_eq_true rfl) rfl ?_
  refine go_iload_n 0 dJ6_bitCount_0f7a4_41 rfl rfl ?_
  refine go_iload_n 0 dJ6_bitCount_0f7a4_42 rfl rfl ?_
  refine go_bipush (v := (16 : Int32)) dJ6_bitCount_0f7a4_43 (by decide) ?_
  refine go_iushr dJ6_bitCount_0f7a4_45 ?_
  refine go_nmi hF (fun v9 hF => ?_)
  refine go_iadd dJ6_bitCount_0f7a4_46 ?_
  refine go_nmi hF (fun v10 hF => ?_)
  refine go_istore_n [(0, .int v10)] dJ6_bitCount_0f7a4_47 rfl (Nat.le_of_ble_eq_true rfl) rfl ?_
  refine go_iload_n 0 dJ6_bitCount_0f7a4_48 rfl rfl ?_
  refine go_bipush (v := (63 : Int32)) dJ6_bitCount_0f7a4_49 (by decide) ?_
  refine go_iand dJ6_bitCount_0f7a4_51 ?_
  exact go_iret (Om := O_J6_bitCount_0f7a4 K ) hR hF dJ6_bitCount_0f7a4_52 rfl rfl (Nat.zero_le _) (Nat.zero_le _) ⟨rfl, rfl⟩
theorem ok_J6_bitCount_0f7a4 : gOkS M_J6_bitCount_0f7a4 1 := ⟨⟨wd571, wd76, by decide +kernel, by decide +kernel, by decide +kernel⟩, wd570⟩
def C_X8_isFull (K : gK) (b0 : Nat) (b0_berths : Nat) (b1 : Nat) (b0_pitch : Nat) (b0_loud : Nat) (b0_depth : Nat) (b0_from : Nat) (b0_to : Nat) (b0_mate : Nat) (n_b1 : Nat) (s_b0_cars : Int32) (s_b0_sleepers : Int32) (s_b0_couples : Int32) (s_b0_law : Int32) (f_b0_berths : Nat → Int32) (f_b1 : Nat → Int32) : va_W := [(b0, .inr (7, [.int s_b0_cars, .int s_b0_sleepers, .int s_b0_couples, .int s_b0_law, .ref b0_berths, .ref b0_pitch, .ref b0_loud, .ref b0_depth, .ref b0_from, .ref b0_to, .ref b0_mate])), (b0_berths, .inl (kI K, 4, .inl f_b0_berths)), (b1, .inl (kI K, n_b1, .inl f_b1))]
def M_X8_isFull : gM := (yX8_isFull, cX8_isFull, 3, (some .boolean), { frames := 1, cells := 0, slots := 0, locals := 21 })
def O_X8_isFull (K : gK) (b0 : Nat) (b0_berths : Nat) (b1 : Nat) (b0_pitch : Nat) (b0_loud : Nat) (b0_depth : Nat) (b0_from : Nat) (b0_to : Nat) (b0_mate : Nat) (n_b1 : Nat) (s_b0_cars : Int32) (s_b0_sleepers : Int32) (s_b0_couples : Int32) (s_b0_law : Int32) (f_b0_berths : Nat → Int32) (f_b1 : Nat → Int32) (o : Int32) : Option Value → va_W → Prop := fun r w => r = some (.int o) ∧ w = C_X8_isFull K b0 b0_berths b1 b0_pitch b0_loud b0_depth b0_from b0_to b0_mate n_b1 s_b0_cars s_b0_sleepers s_b0_couples s_b0_law f_b0_berths f_b1
noncomputable def F_X8_isFull (n_b1 : Nat) (f_b0_berths : Nat → Int32) (f_b1 : Nat → Int32) (p2 : Int32) : Option (Int32) := bnd (F_X8_at n_b1 f_b1 p2) (fun o1 => bnd (F_J6_bitCount_0f7a4 o1) (fun o2 => bnd (F_X8_at 4 f_b0_berths p2) (fun o3 => if o2 < o3 then some (0 : Int32) else some (1 : Int32))))
set_option maxHeartbeats 4000000 in
theorem kn_X8_isFull (K : gK) (b0 : Nat) (b0_berths : Nat) (b1 : Nat) (b0_pitch : Nat) (b0_loud : Nat) (b0_depth : Nat) (b0_from : Nat) (b0_to : Nat) (b0_mate : Nat) (n_b1 : Nat) (s_b0_cars : Int32) (s_b0_sleepers : Int32) (s_b0_couples : Int32) (s_b0_law : Int32) (f_b0_berths : Nat → Int32) (f_b1 : Nat → Int32) (p2 : Int32) {o : Int32} (hF : F_X8_isFull n_b1 f_b0_berths f_b1 p2 = some o) : Kn K M_X8_isFull [.ref b0, .ref b1, .int p2] (C_X8_isFull K b0 b0_berths b1 b0_pitch b0_loud b0_depth b0_from b0_to b0_mate n_b1 s_b0_cars s_b0_sleepers s_b0_couples s_b0_law f_b0_berths f_b1) (O_X8_isFull K b0 b0_berths b1 b0_pitch b0_loud b0_depth b0_from b0_to b0_mate n_b1 s_b0_cars s_b0_sleepers s_b0_couples s_b0_law f_b0_berths f_b1 o) := by
  refine kn_of (by decide +kernel) (Nat.le_of_ble_eq_true rfl) (fun X hR => ?_)
  refine go_loc (L' := [(0, .ref b0), (1, .ref b1), (2, .int p2)]) [0, 1, 2] rfl ?_
  unfold F_X8_isFull at hF
  refine go_aload_n 1 dX8_isFull_0 rfl rfl ?_
  refine go_iload_n 2 dX8_isFull_1 rfl rfl ?_
  obtain ⟨o1, ho1, hF⟩ := bnd_elim hF
  refine go_callS (As := [.ref b1, .int p2]) (rest := []) (wr := [(b0, .inr (7, [.int s_b0_cars, .int s_b0_sleepers, .int s_b0_couples, .int s_b0_law, .ref b0_berths, .ref b0_pitch, .ref b0_loud, .ref b0_depth, .ref b0_from, .ref b0_to, .ref b0_mate])), (b0_berths, .inl (kI K, 4, .inl f_b0_berths))]) (kn_X8_at K b1 n_b1 f_b1 p2 ho1) ok_X8_at ⟨Nat.le_of_ble_eq_true rfl, Nat.le_of_ble_eq_true rfl⟩ ⟨Nat.le_of_ble_eq_true rfl, Nat.le_of_ble_eq_true rfl⟩ wd525 rfl rfl (Nat.le_of_ble_eq_true rfl) dX8_isFull_2 [2] [0, 1] rfl rfl rfl rfl (by decide) (fun r wo hO => ?_)
  obtain ⟨rfl, rfl⟩ := hO
  refine go_ws (ws' := C_X8_isFull K b0 b0_berths b1 b0_pitch b0_loud b0_depth b0_from b0_to b0_mate n_b1 s_b0_cars s_b0_sleepers s_b0_couples s_b0_law f_b0_berths f_b1) [0, 1, 2] rfl rfl ?_
  refine go_eq (pc' := 5) (st' := [.int o1]) rfl rfl ?_
  obtain ⟨o2, ho2, hF⟩ := bnd_elim hF
  refine go_callS (As := [.int o1]) (rest := []) (wr := [(b0, .inr (7, [.int s_b0_cars, .int s_b0_sleepers, .int s_b0_couples, .int s_b0_law, .ref b0_berths, .ref b0_pitch, .ref b0_loud, .ref b0_depth, .ref b0_from, .ref b0_to, .ref b0_mate])), (b0_berths, .inl (kI K, 4, .inl f_b0_berths)), (b1, .inl (kI K, n_b1, .inl f_b1))]) (kn_J6_bitCount_0f7a4 K o1 ho2) ok_J6_bitCount_0f7a4 ⟨Nat.le_of_ble_eq_true rfl, Nat.le_of_ble_eq_true rfl⟩ ⟨Nat.le_of_ble_eq_true rfl, Nat.le_of_ble_eq_true rfl⟩ wd569 rfl rfl (Nat.le_of_ble_eq_true rfl) dX8_isFull_5 [] [0, 1, 2] rfl rfl rfl rfl (by decide) (fun r wo hO => ?_)
  obtain ⟨rfl, rfl⟩ := hO
  refine go_ws (ws' := C_X8_isFull K b0 b0_berths b1 b0_pitch b0_loud b0_depth b0_from b0_to b0_mate n_b1 s_b0_cars s_b0_sleepers s_b0_couples s_b0_law f_b0_berths f_b1) [0, 1, 2] rfl rfl ?_
  refine go_eq (pc' := 8) (st' := [.int o2]) rfl rfl ?_
  refine go_aload_n 0 dX8_isFull_8 rfl rfl ?_
  refine go_get 7 0 4 hcX7 inX7 (Nat.le_of_ble_eq_true rfl) wd149 rfl rfl dX8_isFull_9 ?_
  refine go_iload_n 2 dX8_isFull_12 rfl rfl ?_
  obtain ⟨o3, ho3, hF⟩ := bnd_elim hF
  refine go_callS (As := [.ref b0_berths, .int p2]) (rest := [.int o2]) (wr := [(b0, .inr (7, [.int s_b0_cars, .int s_b0_sleepers, .int s_b0_couples, .int s_b0_law, .ref b0_berths, .ref b0_pitch, .ref b0_loud, .ref b0_depth, .ref b0_from, .ref b0_to, .ref b0_mate])), (b1, .inl (kI K, n_b1, .inl f_b1))]) (kn_X8_at K b0_berths 4 f_b0_berths p2 ho3) ok_X8_at ⟨Nat.le_of_ble_eq_true rfl, Nat.le_of_ble_eq_true rfl⟩ ⟨Nat.le_of_ble_eq_true rfl, Nat.le_of_ble_eq_true rfl⟩ wd525 rfl rfl (Nat.le_of_ble_eq_true rfl) dX8_isFull_13 [1] [0, 2] rfl rfl rfl rfl (by decide) (fun r wo hO => ?_)
  obtain ⟨rfl, rfl⟩ := hO
  refine go_ws (ws' := C_X8_isFull K b0 b0_berths b1 b0_pitch b0_loud b0_depth b0_from b0_to b0_mate n_b1 s_b0_cars s_b0_sleepers s_b0_couples s_b0_law f_b0_berths f_b1) [0, 2, 1] rfl rfl ?_
  refine go_eq (pc' := 16) (st' := [.int o3, .int o2]) rfl rfl ?_
  refine go_icmp_lt 23 hF dX8_isFull_16 (by decide) (fun hF => ?_) (fun hF => ?_)
  · refine go_iconst (v := (0 : Int32)) dX8_isFull_23 (by decide) ?_
    exact go_iret (Om := O_X8_isFull K b0 b0_berths b1 b0_pitch b0_loud b0_depth b0_from b0_to b0_mate n_b1 s_b0_cars s_b0_sleepers s_b0_couples s_b0_law f_b0_berths f_b1) hR hF dX8_isFull_24 rfl rfl (Nat.zero_le _) (Nat.zero_le _) ⟨rfl, rfl⟩
  · refine go_iconst (v := (1 : Int32)) dX8_isFull_19 (by decide) ?_
    refine go_goto 24 dX8_isFull_20 (by decide) ?_
    exact go_iret (Om := O_X8_isFull K b0 b0_berths b1 b0_pitch b0_loud b0_depth b0_from b0_to b0_mate n_b1 s_b0_cars s_b0_sleepers s_b0_couples s_b0_law f_b0_berths f_b1) hR hF dX8_isFull_24 rfl rfl (Nat.zero_le _) (Nat.zero_le _) ⟨rfl, rfl⟩
theorem ok_X8_isFull : gOkS M_X8_isFull 3 := ⟨⟨wd568, wd64, by decide +kernel, by decide +kernel, by decide +kernel⟩, wd567⟩
