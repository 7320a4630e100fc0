def C_X6_add (K : gK) (a : Nat) (a_letters : Nat) (s_a_length : Int32) (s_a_faultPlace : Int32) (s_a_fault : Int32) (s_a_place : Int32) (s_a_numberPlace : Int32) (s_a_isLawTold : Int32) (f_a_letters : Nat → Int32) : va_W := [(a, .inr (6, [.ref a_letters, .int s_a_length, .int s_a_faultPlace, .int s_a_fault, .int s_a_place, .int s_a_numberPlace, .int s_a_isLawTold])), (a_letters, .inl (kI K, 240, .inl f_a_letters))]
def M_X6_add : gM := (yX6_add, cX6_add, 2, (some .boolean), { frames := 1, cells := 0, slots := 0, locals := 22 })
def O_X6_add (K : gK) (a : Nat) (a_letters : Nat) (s_a_faultPlace : Int32) (s_a_fault : Int32) (s_a_place : Int32) (s_a_numberPlace : Int32) (s_a_isLawTold : Int32) (o : Int32 × Int32 × (Nat → Int32)) : Option Value → va_W → Prop := fun r w => r = some (.int o.1) ∧ w = C_X6_add K a a_letters o.2.1 s_a_faultPlace s_a_fault s_a_place s_a_numberPlace s_a_isLawTold o.2.2
noncomputable def F_X6_add (s_a_length : Int32) (f_a_letters : Nat → Int32) (p1 : Int32) : Option (Int32 × Int32 × (Nat → Int32)) := if s_a_length < (240 : Int32) then bnd (F_X8_lay 240 f_a_letters s_a_length p1) (fun o1 => nm (s_a_length + (1 : Int32)) (fun v2 => some ((1 : Int32), v2, o1))) else some ((0 : Int32), s_a_length, f_a_letters)
set_option maxHeartbeats 4000000 in
theorem kn_X6_add (K : gK) (a : Nat) (a_letters : Nat) (s_a_faultPlace : Int32) (s_a_fault : Int32) (s_a_place : Int32) (s_a_numberPlace : Int32) (s_a_isLawTold : Int32) (s_a_length : Int32) (f_a_letters : Nat → Int32) (p1 : Int32) {o : Int32 × Int32 × (Nat → Int32)} (hF : F_X6_add s_a_length f_a_letters p1 = some o) : Kn K M_X6_add [.ref a, .int p1] (C_X6_add K a a_letters s_a_length s_a_faultPlace s_a_fault s_a_place s_a_numberPlace s_a_isLawTold f_a_letters) (O_X6_add K a a_letters s_a_faultPlace s_a_fault s_a_place s_a_numberPlace s_a_isLawTold o) := by
  refine kn_of (by decide +kernel) (Nat.le_of_ble_eq_true rfl) (fun X hR => ?_)
  refine go_loc (L' := [(0, .ref a), (1, .int p1)]) [0, 1] rfl ?_
  unfold F_X6_add at hF
  refine go_aload_n 0 dX6_add_0 rfl rfl ?_
  refine go_get 6 0 1 hcX6 inX6 (Nat.le_of_ble_eq_true rfl) wd92 rfl rfl dX6_add_1 ?_
  refine go_sipush (v := (240 : Int32)) dX6_add_4 (by decide) ?_
  refine go_icmp_lt 12 hF dX6_add_7 (by decide) (fun hF => ?_) (fun hF => ?_)
  · refine go_aload_n 0 dX6_add_12 rfl rfl ?_
    refine go_get 6 0 0 hcX6 inX6 (Nat.le_of_ble_eq_true rfl) wd91 rfl rfl dX6_add_13 ?_
    refine go_aload_n 0 dX6_add_16 rfl rfl ?_
    refine go_get 6 0 1 hcX6 inX6 (Nat.le_of_ble_eq_true rfl) wd92 rfl rfl dX6_add_17 ?_
    refine go_iload_n 1 dX6_add_20 rfl rfl ?_
    obtain ⟨o1, ho1, hF⟩ := bnd_elim hF
    refine go_callSN (As := [.ref a_letters, .int s_a_length, .int p1]) (rest := []) (wr := [(a, .inr (6, [.ref a_letters, .int s_a_length, .int s_a_faultPlace, .int s_a_fault, .int s_a_place, .int s_a_numberPlace, .int s_a_isLawTold]))]) (kn_X8_lay K a_letters 240 f_a_letters s_a_length p1 ho1) ok_X8_lay ⟨Nat.le_of_ble_eq_true rfl, Nat.le_of_ble_eq_true rfl⟩ ⟨Nat.le_of_ble_eq_true rfl, Nat.le_of_ble_eq_true rfl⟩ ns6 rfl rfl (Nat.le_of_ble_eq_true rfl) dX6_add_21 [1] [0] rfl rfl rfl rfl (by decide) (fun r wo hO => ?_)
    obtain ⟨rfl, rfl⟩ := hO
    refine go_ws (ws' := C_X6_add K a a_letters s_a_length s_a_faultPlace s_a_fault s_a_place s_a_numberPlace s_a_isLawTold o1) [0, 1] rfl rfl ?_
    refine go_eq (pc' := 24) (st' := []) rfl rfl ?_
    refine go_aload_n 0 dX6_add_24 rfl rfl ?_
    refine go_dup dX6_add_25 rfl ?_
    refine go_get 6 0 1 hcX6 inX6 (Nat.le_of_ble_eq_true rfl) wd92 rfl rfl dX6_add_26 ?_
    refine go_iconst (v := (1 : Int32)) dX6_add_29 (by decide) ?_
    refine go_iadd dX6_add_30 ?_
    refine go_nmi hF (fun v2 hF => ?_)
    refine go_put 6 0 1 (C_X6_add K a a_letters v2 s_a_faultPlace s_a_fault s_a_place s_a_numberPlace s_a_isLawTold o1) hcX6 inX6 tyX6_ok nmX6 (Nat.le_of_ble_eq_true rfl) wd92 rfl rfl rfl rfl (Nat.le_of_ble_eq_true rfl) rfl dX6_add_31 ?_
    refine go_iconst (v := (1 : Int32)) dX6_add_34 (by decide) ?_
    exact go_iret (Om := O_X6_add K a a_letters s_a_faultPlace s_a_fault s_a_place s_a_numberPlace s_a_isLawTold) hR hF dX6_add_35 rfl rfl (Nat.zero_le _) (Nat.zero_le _) ⟨rfl, rfl⟩
  · refine go_iconst (v := (0 : Int32)) dX6_add_10 (by decide) ?_
    exact go_iret (Om := O_X6_add K a a_letters s_a_faultPlace s_a_fault s_a_place s_a_numberPlace s_a_isLawTold) hR hF dX6_add_11 rfl rfl (Nat.zero_le _) (Nat.zero_le _) ⟨rfl, rfl⟩
theorem ok_X6_add : gOkV M_X6_add 1 := ⟨⟨wd410, wd65, by decide +kernel, by decide +kernel, by decide +kernel⟩, wd408, wd409⟩
def C_X6_skipBlanks (K : gK) (a : Nat) (a_letters : Nat) (s_a_length : Int32) (s_a_faultPlace : Int32) (s_a_fault : Int32) (s_a_place : Int32) (s_a_numberPlace : Int32) (s_a_isLawTold : Int32) (f_a_letters : Nat → Int32) : va_W := [(a, .inr (6, [.ref a_letters, .int s_a_length, .int s_a_faultPlace, .int s_a_fault, .int s_a_place, .int s_a_numberPlace, .int s_a_isLawTold])), (a_letters, .inl (kI K, 240, .inl f_a_letters))]
def M_X6_skipBlanks : gM := (yX6_skipBlanks, cX6_skipBlanks, 1, none, { frames := 1, cells := 0, slots := 0, locals := 21 })
def O_X6_skipBlanks (K : gK) (a : Nat) (a_letters : Nat) (s_a_faultPlace : Int32) (s_a_fault : Int32) (s_a_numberPlace : Int32) (s_a_isLawTold : Int32) (s_a_length : Int32) (f_a_letters : Nat → Int32) (o : Int32) : Option Value → va_W → Prop := fun r w => r = none ∧ w = C_X6_skipBlanks K a a_letters s_a_length s_a_faultPlace s_a_fault o s_a_numberPlace s_a_isLawTold f_a_letters
noncomputable def B_X6_skipBlanks_0 (N : Nat) (s_a_length : Int32) (f_a_letters : Nat → Int32) (k0 : Int32 → Option (Int32)) (s_a_place : Int32) : Option (Int32) := if s_a_length ≤ s_a_place then some s_a_place else bnd (F_X8_at 240 f_a_letters s_a_place) (fun o1 => if o1 = (32 : Int32) then nm (s_a_place + (1 : Int32)) (fun v2 => k0 v2) else some s_a_place)
noncomputable def F_X6_skipBlanks_0 (N : Nat) (s_a_length : Int32) (f_a_letters : Nat → Int32)  : Nat → Int32 → Option (Int32) := lq1 (fun self => B_X6_skipBlanks_0 N s_a_length f_a_letters  self)
set_option maxHeartbeats 4000000 in
theorem G_X6_skipBlanks_0 {K : gK} {X : gX} {wi : va_W} {o : Int32} (N : Nat) (s_a_length : Int32) (f_a_letters : Nat → Int32) (a : Nat) (a_letters : Nat) (s_a_faultPlace : Int32) (s_a_fault : Int32) (s_a_numberPlace : Int32) (s_a_isLawTold : Int32) (hR : gR K X M_X6_skipBlanks wi (O_X6_skipBlanks K a a_letters s_a_faultPlace s_a_fault s_a_numberPlace s_a_isLawTold s_a_length f_a_letters o)) (k0 : Int32 → Option (Int32)) (hk0 : ∀ (s_a_place : Int32), k0 s_a_place = some o → Go K X M_X6_skipBlanks 0 0 (C_X6_skipBlanks K a a_letters s_a_length s_a_faultPlace s_a_fault s_a_place s_a_numberPlace s_a_isLawTold f_a_letters) [(0, .ref a)] 0 []) (s_a_place : Int32) (hF : B_X6_skipBlanks_0 N s_a_length f_a_letters k0 s_a_place = some o) : Go K X M_X6_skipBlanks 0 0 (C_X6_skipBlanks K a a_letters s_a_length s_a_faultPlace s_a_fault s_a_place s_a_numberPlace s_a_isLawTold f_a_letters) [(0, .ref a)] 0 [] := by
  unfold B_X6_skipBlanks_0 at hF
  refine go_aload_n 0 dX6_skipBlanks_0 rfl rfl ?_
  refine go_get 6 0 4 hcX6 inX6 (Nat.le_of_ble_eq_true rfl) wd97 rfl rfl dX6_skipBlanks_1 ?_
  refine go_aload_n 0 dX6_skipBlanks_4 rfl rfl ?_
  refine go_get 6 0 1 hcX6 inX6 (Nat.le_of_ble_eq_true rfl) wd92 rfl rfl dX6_skipBlanks_5 ?_
  refine go_icmp_ge 40 hF dX6_skipBlanks_8 (by decide) (fun hF => ?_) (fun hF => ?_)
  · exact go_vret (Om := O_X6_skipBlanks K a a_letters s_a_faultPlace s_a_fault s_a_numberPlace s_a_isLawTold s_a_length f_a_letters) hR hF dX6_skipBlanks_40 rfl (Nat.zero_le _) (Nat.zero_le _) ⟨rfl, rfl⟩
  · refine go_aload_n 0 dX6_skipBlanks_11 rfl rfl ?_
    refine go_get 6 0 0 hcX6 inX6 (Nat.le_of_ble_eq_true rfl) wd91 rfl rfl dX6_skipBlanks_12 ?_
    refine go_aload_n 0 dX6_skipBlanks_15 rfl rfl ?_
    refine go_get 6 0 4 hcX6 inX6 (Nat.le_of_ble_eq_true rfl) wd97 rfl rfl dX6_skipBlanks_16 ?_
    obtain ⟨o1, ho1, hF⟩ := bnd_elim hF
    refine go_callSN (As := [.ref a_letters, .int s_a_place]) (rest := []) (wr := [(a, .inr (6, [.ref a_letters, .int s_a_length, .int s_a_faultPlace, .int s_a_fault, .int s_a_place, .int s_a_numberPlace, .int s_a_isLawTold]))]) (kn_X8_at K a_letters 240 f_a_letters s_a_place ho1) ok_X8_at ⟨Nat.le_of_ble_eq_true rfl, Nat.le_of_ble_eq_true rfl⟩ ⟨Nat.le_of_ble_eq_true rfl, Nat.le_of_ble_eq_true rfl⟩ ns7 rfl rfl (Nat.le_of_ble_eq_true rfl) dX6_skipBlanks_19 [1] [0] rfl rfl rfl rfl (by decide) (fun r wo hO => ?_)
    obtain ⟨rfl, rfl⟩ := hO
    refine go_ws (ws' := C_X6_skipBlanks K a a_letters s_a_length s_a_faultPlace s_a_fault s_a_place s_a_numberPlace s_a_isLawTold f_a_letters) [0, 1] rfl rfl ?_
    refine go_eq (pc' := 22) (st' := [.int o1]) rfl rfl ?_
    refine go_bipush (v := (32 : Int32)) dX6_skipBlanks_22 (by decide) ?_
    refine go_icmp_ne 40 hF dX6_skipBlanks_24 (by decide) (fun hF => ?_) (fun hF => ?_)
    · exact go_vret (Om := O_X6_skipBlanks K a a_letters s_a_faultPlace s_a_fault s_a_numberPlace s_a_isLawTold s_a_length f_a_letters) hR hF dX6_skipBlanks_40 rfl (Nat.zero_le _) (Nat.zero_le _) ⟨rfl, rfl⟩
    · refine go_aload_n 0 dX6_skipBlanks_27 rfl rfl ?_
      refine go_dup dX6_skipBlanks_28 rfl ?_
      refine go_get 6 0 4 hcX6 inX6 (Nat.le_of_ble_eq_true rfl) wd97 rfl rfl dX6_skipBlanks_29 ?_
      refine go_iconst (v := (1 : Int32)) dX6_skipBlanks_32 (by decide) ?_
      refine go_iadd dX6_skipBlanks_33 ?_
      refine go_nmi hF (fun v2 hF => ?_)
      refine go_put 6 0 4 (C_X6_skipBlanks K a a_letters s_a_length s_a_faultPlace s_a_fault v2 s_a_numberPlace s_a_isLawTold f_a_letters) hcX6 inX6 tyX6_ok nmX6 (Nat.le_of_ble_eq_true rfl) wd97 rfl rfl rfl rfl (Nat.le_of_ble_eq_true rfl) rfl dX6_skipBlanks_34 ?_
      refine go_goto 0 dX6_skipBlanks_37 (by decide) ?_
      exact hk0 v2 hF
theorem GL_X6_skipBlanks_0 {K : gK} {X : gX} {wi : va_W} {o : Int32} (N : Nat) (s_a_length : Int32) (f_a_letters : Nat → Int32) (a : Nat) (a_letters : Nat) (s_a_faultPlace : Int32) (s_a_fault : Int32) (s_a_numberPlace : Int32) (s_a_isLawTold : Int32) (hR : gR K X M_X6_skipBlanks wi (O_X6_skipBlanks K a a_letters s_a_faultPlace s_a_fault s_a_numberPlace s_a_isLawTold s_a_length f_a_letters o))  : ∀ (fuel : Nat) (s_a_place : Int32), F_X6_skipBlanks_0 N s_a_length f_a_letters  fuel s_a_place = some o → Go K X M_X6_skipBlanks 0 0 (C_X6_skipBlanks K a a_letters s_a_length s_a_faultPlace s_a_fault s_a_place s_a_numberPlace s_a_isLawTold f_a_letters) [(0, .ref a)] 0 [] :=
  lq1_elim (fun self hs s_a_place hF => G_X6_skipBlanks_0 N s_a_length f_a_letters a a_letters s_a_faultPlace s_a_fault s_a_numberPlace s_a_isLawTold hR  self hs s_a_place hF)
noncomputable def F_X6_skipBlanks (N : Nat) (s_a_length : Int32) (s_a_place : Int32) (f_a_letters : Nat → Int32) : Option (Int32) := F_X6_skipBlanks_0 N s_a_length f_a_letters N s_a_place
set_option maxHeartbeats 4000000 in
theorem kn_X6_skipBlanks (K : gK) (N : Nat) (a : Nat) (a_letters : Nat) (s_a_faultPlace : Int32) (s_a_fault : Int32) (s_a_numberPlace : Int32) (s_a_isLawTold : Int32) (s_a_length : Int32) (s_a_place : Int32) (f_a_letters : Nat → Int32) {o : Int32} (hF : F_X6_skipBlanks N s_a_length s_a_place f_a_letters = some o) : Kn K M_X6_skipBlanks [.ref a] (C_X6_skipBlanks K a a_letters s_a_length s_a_faultPlace s_a_fault s_a_place s_a_numberPlace s_a_isLawTold f_a_letters) (O_X6_skipBlanks K a a_letters s_a_faultPlace s_a_fault s_a_numberPlace s_a_isLawTold s_a_length f_a_letters o) := by
  refine kn_of (by decide +kernel) (Nat.le_of_ble_eq_true rfl) (fun X hR => ?_)
  refine go_loc (L' := [(0, .ref a)]) [0] rfl ?_
  unfold F_X6_skipBlanks at hF
  exact GL_X6_skipBlanks_0 N s_a_length f_a_letters a a_letters s_a_faultPlace s_a_fault s_a_numberPlace s_a_isLawTold hR  N s_a_place hF
theorem ok_X6_skipBlanks : gOkV M_X6_skipBlanks 0 := ⟨⟨wd427, wd65, by decide +kernel, by decide +kernel, by decide +kernel⟩, wd426, wd0⟩
def C_X6_letterHere (K : gK) (a : Nat) (a_letters : Nat) (s_a_length : Int32) (s_a_faultPlace : Int32) (s_a_fault : Int32) (s_a_place : Int32) (s_a_numberPlace : Int32) (s_a_isLawTold : Int32) (f_a_letters : Nat → Int32) : va_W := [(a, .inr (6, [.ref a_letters, .int s_a_length, .int s_a_faultPlace, .int s_a_fault, .int s_a_place, .int s_a_numberPlace, .int s_a_isLawTold])), (a_letters, .inl (kI K, 240, .inl f_a_letters))]
def M_X6_letterHere : gM := (yX6_letterHere, cX6_letterHere, 1, (some .int), { frames := 1, cells := 0, slots := 0, locals := 21 })
def O_X6_letterHere (K : gK) (a : Nat) (a_letters : Nat) (s_a_faultPlace : Int32) (s_a_fault : Int32) (s_a_numberPlace : Int32) (s_a_isLawTold : Int32) (s_a_length : Int32) (s_a_place : Int32) (f_a_letters : Nat → Int32) (o : Int32) : Option Value → va_W → Prop := fun r w => r = some (.int o) ∧ w = C_X6_letterHere K a a_letters s_a_length s_a_faultPlace s_a_fault s_a_place s_a_numberPlace s_a_isLawTold f_a_letters
noncomputable def F_X6_letterHere (s_a_length : Int32) (s_a_place : Int32) (f_a_letters : Nat → Int32) : Option (Int32) := if s_a_length ≤ s_a_place then some (-1 : Int32) else bnd (F_X8_at 240 f_a_letters s_a_place) (fun o1 => some o1)
set_option maxHeartbeats 4000000 in
theorem kn_X6_letterHere (K : gK) (a : Nat) (a_letters : Nat) (s_a_faultPlace : Int32) (s_a_fault : Int32) (s_a_numberPlace : Int32) (s_a_isLawTold : Int32) (s_a_length : Int32) (s_a_place : Int32) (f_a_letters : Nat → Int32) {o : Int32} (hF : F_X6_letterHere s_a_length s_a_place f_a_letters = some o) : Kn K M_X6_letterHere [.ref a] (C_X6_letterHere K a a_letters s_a_length s_a_faultPlace s_a_fault s_a_place s_a_numberPlace s_a_isLawTold f_a_letters) (O_X6_letterHere K a a_letters s_a_faultPlace s_a_fault s_a_numberPlace s_a_isLawTold s_a_length s_a_place f_a_letters o) := by
  refine kn_of (by decide +kernel) (Nat.le_of_ble_eq_true rfl) (fun X hR => ?_)
  refine go_loc (L' := [(0, .ref a)]) [0] rfl ?_
  unfold F_X6_letterHere at hF
  refine go_aload_n 0 dX6_letterHere_0 rfl rfl ?_
  refine go_get 6 0 4 hcX6 inX6 (Nat.le_of_ble_eq_true rfl) wd97 rfl rfl dX6_letterHere_1 ?_
  refine go_aload_n 0 dX6_letterHere_4 rfl rfl ?_
  refine go_get 6 0 1 hcX6 inX6 (Nat.le_of_ble_eq_true rfl) wd92 rfl rfl dX6_letterHere_5 ?_
  refine go_icmp_ge 25 hF dX6_letterHere_8 (by decide) (fun hF => ?_) (fun hF => ?_)
  · refine go_iconst (v := (-1 : Int32)) dX6_letterHere_25 (by decide) ?_
    exact go_iret (Om := O_X6_letterHere K a a_letters s_a_faultPlace s_a_fault s_a_numberPlace s_a_isLawTold s_a_length s_a_place f_a_letters) hR hF dX6_letterHere_26 rfl rfl (Nat.zero_le _) (Nat.zero_le _) ⟨rfl, rfl⟩
  · refine go_aload_n 0 dX6_letterHere_11 rfl rfl ?_
    refine go_get 6 0 0 hcX6 inX6 (Nat.le_of_ble_eq_true rfl) wd91 rfl rfl dX6_letterHere_12 ?_
    refine go_aload_n 0 dX6_letterHere_15 rfl rfl ?_
    refine go_get 6 0 4 hcX6 inX6 (Nat.le_of_ble_eq_true rfl) wd97 rfl rfl dX6_letterHere_16 ?_
    obtain ⟨o1, ho1, hF⟩ := bnd_elim hF
    refine go_callSN (As := [.ref a_letters, .int s_a_place]) (rest := []) (wr := [(a, .inr (6, [.ref a_letters, .int s_a_length, .int s_a_faultPlace, .int s_a_fault, .int s_a_place, .int s_a_numberPlace, .int s_a_isLawTold]))]) (kn_X8_at K a_letters 240 f_a_letters s_a_place ho1) ok_X8_at ⟨Nat.le_of_ble_eq_true rfl, Nat.le_of_ble_eq_true rfl⟩ ⟨Nat.le_of_ble_eq_true rfl, Nat.le_of_ble_eq_true rfl⟩ ns7 rfl rfl (Nat.le_of_ble_eq_true rfl) dX6_letterHere_19 [1] [0] rfl rfl rfl rfl (by decide) (fun r wo hO => ?_)
    obtain ⟨rfl, rfl⟩ := hO
    refine go_ws (ws' := C_X6_letterHere K a a_letters s_a_length s_a_faultPlace s_a_fault s_a_place s_a_numberPlace s_a_isLawTold f_a_letters) [0, 1] rfl rfl ?_
    refine go_eq (pc' := 22) (st' := [.int o1]) rfl rfl ?_
    refine go_goto 26 dX6_letterHere_22 (by decide) ?_
    exact go_iret (Om := O_X6_letterHere K a a_letters s_a_faultPlace s_a_fault s_a_numberPlace s_a_isLawTold s_a_length s_a_place f_a_letters) hR hF dX6_letterHere_26 rfl rfl (Nat.zero_le _) (Nat.zero_le _) ⟨rfl, rfl⟩
theorem ok_X6_letterHere : gOkV M_X6_letterHere 0 := ⟨⟨wd438, wd65, by decide +kernel, by decide +kernel, by decide +kernel⟩, wd437, wd2⟩
def C_X6_faultOfWord (K : gK) (a : Nat) (b1 : Nat) (a_letters : Nat) (b1_berths : Nat) (b1_pitch : Nat) (b1_loud : Nat) (b1_depth : Nat) (b1_from : Nat) (b1_to : Nat) (b1_mate : Nat) (s_a_length : Int32) (s_a_faultPlace : Int32) (s_a_fault : Int32) (s_a_place : Int32) (s_a_numberPlace : Int32) (s_a_isLawTold : Int32) (s_b1_cars : Int32) (s_b1_sleepers : Int32) (s_b1_couples : Int32) (s_b1_law : Int32) : va_W := [(a, .inr (6, [.ref a_letters, .int s_a_length, .int s_a_faultPlace, .int s_a_fault, .int s_a_place, .int s_a_numberPlace, .int s_a_isLawTold])), (b1, .inr (7, [.int s_b1_cars, .int s_b1_sleepers, .int s_b1_couples, .int s_b1_law, .ref b1_berths, .ref b1_pitch, .ref b1_loud, .ref b1_depth, .ref b1_from, .ref b1_to, .ref b1_mate]))]
def M_X6_faultOfWord : gM := (yX6_faultOfWord, cX6_faultOfWord, 4, (some .int), { frames := 0, cells := 0, slots := 0, locals := 0 })
def O_X6_faultOfWord (K : gK) (a : Nat) (b1 : Nat) (a_letters : Nat) (b1_berths : Nat) (b1_pitch : Nat) (b1_loud : Nat) (b1_depth : Nat) (b1_from : Nat) (b1_to : Nat) (b1_mate : Nat) (s_a_length : Int32) (s_a_faultPlace : Int32) (s_a_fault : Int32) (s_a_place : Int32) (s_a_numberPlace : Int32) (s_b1_law : Int32) (s_a_isLawTold : Int32) (s_b1_cars : Int32) (s_b1_sleepers : Int32) (s_b1_couples : Int32) (o : Int32) : Option Value → va_W → Prop := fun r w => r = some (.int o) ∧ w = C_X6_faultOfWord K a b1 a_letters b1_berths b1_pitch b1_loud b1_depth b1_from b1_to b1_mate s_a_length s_a_faultPlace s_a_fault s_a_place s_a_numberPlace s_a_isLawTold s_b1_cars s_b1_sleepers s_b1_couples s_b1_law
noncomputable def B_X6_faultOfWord_12 (s_a_isLawTold : Int32) (s_b1_cars : Int32) (s_b1_sleepers : Int32) (s_b1_couples : Int32) (p2 : Int32)  (z0 : Int32) : Option (Int32) := if p2 = (99 : Int32) then if z0 = 0 then if s_b1_couples < (4 : Int32) then some (0 : Int32) else some (3 : Int32) else some (1 : Int32) else (if p2 = (105 : Int32) then if z0 = 0 then if s_a_isLawTold = 0 then some (0 : Int32) else some (3 : Int32) else some (1 : Int32) else (if p2 = (107 : Int32) then if z0 = 0 then some (3 : Int32) else some (0 : Int32) else (if p2 = (115 : Int32) then if z0 = 0 then if s_b1_sleepers < (8 : Int32) then some (0 : Int32) else some (3 : Int32) else some (1 : Int32) else (some (1 : Int32)))))
set_option maxHeartbeats 4000000 in
theorem G_X6_faultOfWord_12 {K : gK} {X : gX} {wi : va_W} {o : Int32} (s_a_isLawTold : Int32) (s_b1_cars : Int32) (s_b1_sleepers : Int32) (s_b1_couples : Int32) (p2 : Int32) (a : Nat) (b1 : Nat) (a_letters : Nat) (b1_berths : Nat) (b1_pitch : Nat) (b1_loud : Nat) (b1_depth : Nat) (b1_from : Nat) (b1_to : Nat) (b1_mate : Nat) (s_a_length : Int32) (s_a_faultPlace : Int32) (s_a_fault : Int32) (s_a_place : Int32) (s_a_numberPlace : Int32) (s_b1_law : Int32) (hR : gR K X M_X6_faultOfWord wi (O_X6_faultOfWord K a b1 a_letters b1_berths b1_pitch b1_loud b1_depth b1_from b1_to b1_mate s_a_length s_a_faultPlace s_a_fault s_a_place s_a_numberPlace s_b1_law s_a_isLawTold s_b1_cars s_b1_sleepers s_b1_couples o))  (z0 : Int32) (hF : B_X6_faultOfWord_12 s_a_isLawTold s_b1_cars s_b1_sleepers s_b1_couples p2  z0 = some o) : Go K X M_X6_faultOfWord 0 0 (C_X6_faultOfWord K a b1 a_letters b1_berths b1_pitch b1_loud b1_depth b1_from b1_to b1_mate s_a_length s_a_faultPlace s_a_fault s_a_place s_a_numberPlace s_a_isLawTold s_b1_cars s_b1_sleepers s_b1_couples s_b1_law) [(0, .ref a), (1, .ref b1), (2, .int p2)] 12 [.int z0] := by
  unfold B_X6_faultOfWord_12 at hF
  refine go_istore_n [(3, .int z0), (0, .ref a), (1, .ref b1), (2, .int p2)] dX6_faultOfWord_12 rfl (Nat.le_of_ble_eq_true rfl) rfl ?_
  refine go_iload_n 3 dX6_faultOfWord_13 rfl rfl ?_
  refine go_ite hF (fun e0 hF => ?_) (fun n99 hF => ?_)
  · refine go_lsw (off := 96) 110 dX6_faultOfWord_14 (by decide) (by rw [e0]; rfl) (by decide) ?_
    refine go_iload_n 0 dX6_faultOfWord_110 rfl rfl ?_
    refine go_if_eq 118 hF dX6_faultOfWord_111 (by decide) (fun hF => ?_) (fun hF => ?_)
    · refine go_aload_n 2 dX6_faultOfWord_118 rfl rfl ?_
      refine go_get 7 1 2 hcX7 inX7 (Nat.le_of_ble_eq_true rfl) wd142 rfl rfl dX6_faultOfWord_119 ?_
      refine go_iconst (v := (4 : Int32)) dX6_faultOfWord_122 (by decide) ?_
      refine go_icmp_lt 130 hF dX6_faultOfWord_123 (by decide) (fun hF => ?_) (fun hF => ?_)
      · refine go_iconst (v := (0 : Int32)) dX6_faultOfWord_130 (by decide) ?_
        exact go_iret (Om := O_X6_faultOfWord K a b1 a_letters b1_berths b1_pitch b1_loud b1_depth b1_from b1_to b1_mate s_a_length s_a_faultPlace s_a_fault s_a_place s_a_numberPlace s_b1_law s_a_isLawTold s_b1_cars s_b1_sleepers s_b1_couples) hR hF dX6_faultOfWord_131 rfl rfl (Nat.zero_le _) (Nat.zero_le _) ⟨rfl, rfl⟩
      · refine go_iconst (v := (3 : Int32)) dX6_faultOfWord_126 (by decide) ?_
        refine go_goto 131 dX6_faultOfWord_127 (by decide) ?_
        exact go_iret (Om := O_X6_faultOfWord K a b1 a_letters b1_berths b1_pitch b1_loud b1_depth b1_from b1_to b1_mate s_a_length s_a_faultPlace s_a_fault s_a_place s_a_numberPlace s_b1_law s_a_isLawTold s_b1_cars s_b1_sleepers s_b1_couples) hR hF dX6_faultOfWord_131 rfl rfl (Nat.zero_le _) (Nat.zero_le _) ⟨rfl, rfl⟩
    · refine go_iconst (v := (1 : Int32)) dX6_faultOfWord_114 (by decide) ?_
      refine go_goto 131 dX6_faultOfWord_115 (by decide) ?_
      exact go_iret (Om := O_X6_faultOfWord K a b1 a_letters b1_berths b1_pitch b1_loud b1_depth b1_from b1_to b1_mate s_a_length s_a_faultPlace s_a_fault s_a_place s_a_numberPlace s_b1_law s_a_isLawTold s_b1_cars s_b1_sleepers s_b1_couples) hR hF dX6_faultOfWord_131 rfl rfl (Nat.zero_le _) (Nat.zero_le _) ⟨rfl, rfl⟩
  refine go_ite hF (fun e0 hF => ?_) (fun n105 hF => ?_)
  · refine go_lsw (off := 75) 89 dX6_faultOfWord_14 (by decide) (by rw [e0]; rfl) (by decide) ?_
    refine go_iload_n 0 dX6_faultOfWord_89 rfl rfl ?_
    refine go_if_eq 97 hF dX6_faultOfWord_90 (by decide) (fun hF => ?_) (fun hF => ?_)
    · refine go_aload_n 1 dX6_faultOfWord_97 rfl rfl ?_
      refine go_get 6 0 6 hcX6 inX6 (Nat.le_of_ble_eq_true rfl) wd99 rfl rfl dX6_faultOfWord_98 ?_
      refine go_if_eq 108 hF dX6_faultOfWord_101 (by decide) (fun hF => ?_) (fun hF => ?_)
      · refine go_iconst (v := (0 : Int32)) dX6_faultOfWord_108 (by decide) ?_
        exact go_iret (Om := O_X6_faultOfWord K a b1 a_letters b1_berths b1_pitch b1_loud b1_depth b1_from b1_to b1_mate s_a_length s_a_faultPlace s_a_fault s_a_place s_a_numberPlace s_b1_law s_a_isLawTold s_b1_cars s_b1_sleepers s_b1_couples) hR hF dX6_faultOfWord_109 rfl rfl (Nat.zero_le _) (Nat.zero_le _) ⟨rfl, rfl⟩
      · refine go_iconst (v := (3 : Int32)) dX6_faultOfWord_104 (by decide) ?_
        refine go_goto 109 dX6_faultOfWord_105 (by decide) ?_
        exact go_iret (Om := O_X6_faultOfWord K a b1 a_letters b1_berths b1_pitch b1_loud b1_depth b1_from b1_to b1_mate s_a_length s_a_faultPlace s_a_fault s_a_place s_a_numberPlace s_b1_law s_a_isLawTold s_b1_cars s_b1_sleepers s_b1_couples) hR hF dX6_faultOfWord_109 rfl rfl (Nat.zero_le _) (Nat.zero_le _) ⟨rfl, rfl⟩
    · refine go_iconst (v := (1 : Int32)) dX6_faultOfWord_93 (by decide) ?_
      refine go_goto 109 dX6_faultOfWord_94 (by decide) ?_
      exact go_iret (Om := O_X6_faultOfWord K a b1 a_letters b1_berths b1_pitch b1_loud b1_depth b1_from b1_to b1_mate s_a_length s_a_faultPlace s_a_fault s_a_place s_a_numberPlace s_b1_law s_a_isLawTold s_b1_cars s_b1_sleepers s_b1_couples) hR hF dX6_faultOfWord_109 rfl rfl (Nat.zero_le _) (Nat.zero_le _) ⟨rfl, rfl⟩
  refine go_ite hF (fun e0 hF => ?_) (fun n107 hF => ?_)
  · refine go_lsw (off := 42) 56 dX6_faultOfWord_14 (by decide) (by rw [e0]; rfl) (by decide) ?_
    refine go_iload_n 0 dX6_faultOfWord_56 rfl rfl ?_
    refine go_if_eq 64 hF dX6_faultOfWord_57 (by decide) (fun hF => ?_) (fun hF => ?_)
    · refine go_iconst (v := (3 : Int32)) dX6_faultOfWord_64 (by decide) ?_
      exact go_iret (Om := O_X6_faultOfWord K a b1 a_letters b1_berths b1_pitch b1_loud b1_depth b1_from b1_to b1_mate s_a_length s_a_faultPlace s_a_fault s_a_place s_a_numberPlace s_b1_law s_a_isLawTold s_b1_cars s_b1_sleepers s_b1_couples) hR hF dX6_faultOfWord_65 rfl rfl (Nat.zero_le _) (Nat.zero_le _) ⟨rfl, rfl⟩
    · refine go_iconst (v := (0 : Int32)) dX6_faultOfWord_60 (by decide) ?_
      refine go_goto 65 dX6_faultOfWord_61 (by decide) ?_
      exact go_iret (Om := O_X6_faultOfWord K a b1 a_letters b1_berths b1_pitch b1_loud b1_depth b1_from b1_to b1_mate s_a_length s_a_faultPlace s_a_fault s_a_place s_a_numberPlace s_b1_law s_a_isLawTold s_b1_cars s_b1_sleepers s_b1_couples) hR hF dX6_faultOfWord_65 rfl rfl (Nat.zero_le _) (Nat.zero_le _) ⟨rfl, rfl⟩
  refine go_ite hF (fun e0 hF => ?_) (fun n115 hF => ?_)
  · refine go_lsw (off := 52) 66 dX6_faultOfWord_14 (by decide) (by rw [e0]; rfl) (by decide) ?_
    refine go_iload_n 0 dX6_faultOfWord_66 rfl rfl ?_
    refine go_if_eq 74 hF dX6_faultOfWord_67 (by decide) (fun hF => ?_) (fun hF => ?_)
    · refine go_aload_n 2 dX6_faultOfWord_74 rfl rfl ?_
      refine go_get 7 1 1 hcX7 inX7 (Nat.le_of_ble_eq_true rfl) wd139 rfl rfl dX6_faultOfWord_75 ?_
      refine go_bipush (v := (8 : Int32)) dX6_faultOfWord_78 (by decide) ?_
      refine go_icmp_lt 87 hF dX6_faultOfWord_80 (by decide) (fun hF => ?_) (fun hF => ?_)
      · refine go_iconst (v := (0 : Int32)) dX6_faultOfWord_87 (by decide) ?_
        exact go_iret (Om := O_X6_faultOfWord K a b1 a_letters b1_berths b1_pitch b1_loud b1_depth b1_from b1_to b1_mate s_a_length s_a_faultPlace s_a_fault s_a_place s_a_numberPlace s_b1_law s_a_isLawTold s_b1_cars s_b1_sleepers s_b1_couples) hR hF dX6_faultOfWord_88 rfl rfl (Nat.zero_le _) (Nat.zero_le _) ⟨rfl, rfl⟩
      · refine go_iconst (v := (3 : Int32)) dX6_faultOfWord_83 (by decide) ?_
        refine go_goto 88 dX6_faultOfWord_84 (by decide) ?_
        exact go_iret (Om := O_X6_faultOfWord K a b1 a_letters b1_berths b1_pitch b1_loud b1_depth b1_from b1_to b1_mate s_a_length s_a_faultPlace s_a_fault s_a_place s_a_numberPlace s_b1_law s_a_isLawTold s_b1_cars s_b1_sleepers s_b1_couples) hR hF dX6_faultOfWord_88 rfl rfl (Nat.zero_le _) (Nat.zero_le _) ⟨rfl, rfl⟩
    · refine go_iconst (v := (1 : Int32)) dX6_faultOfWord_70 (by decide) ?_
      refine go_goto 88 dX6_faultOfWord_71 (by decide) ?_
      exact go_iret (Om := O_X6_faultOfWord K a b1 a_letters b1_berths b1_pitch b1_loud b1_depth b1_from b1_to b1_mate s_a_length s_a_faultPlace s_a_fault s_a_place s_a_numberPlace s_b1_law s_a_isLawTold s_b1_cars s_b1_sleepers s_b1_couples) hR hF dX6_faultOfWord_88 rfl rfl (Nat.zero_le _) (Nat.zero_le _) ⟨rfl, rfl⟩
  refine go_lsw (off := 118) 132 dX6_faultOfWord_14 (by decide) (by show Op.lookupswitch.offset [(99, 96), (105, 75), (107, 42), (115, 52)] 118 _ = _; rw [lv_osw (a := 99) n99 (by decide), lv_osw (a := 105) n105 (by decide), lv_osw (a := 107) n107 (by decide), lv_osw (a := 115) n115 (by decide)]; rfl) (by decide) ?_
  refine go_iconst (v := (1 : Int32)) dX6_faultOfWord_132 (by decide) ?_
  exact go_iret (Om := O_X6_faultOfWord K a b1 a_letters b1_berths b1_pitch b1_loud b1_depth b1_from b1_to b1_mate s_a_length s_a_faultPlace s_a_fault s_a_place s_a_numberPlace s_b1_law s_a_isLawTold s_b1_cars s_b1_sleepers s_b1_couples) hR hF dX6_faultOfWord_133 rfl rfl (Nat.zero_le _) (Nat.zero_le _) ⟨rfl, rfl⟩
noncomputable def F_X6_faultOfWord (s_a_isLawTold : Int32) (s_b1_cars : Int32) (s_b1_sleepers : Int32) (s_b1_couples : Int32) (p2 : Int32) : Option (Int32) := if s_b1_cars = 0 then B_X6_faultOfWord_12 s_a_isLawTold s_b1_cars s_b1_sleepers s_b1_couples p2 (1 : Int32) else B_X6_faultOfWord_12 s_a_isLawTold s_b1_cars s_b1_sleepers s_b1_couples p2 (0 : Int32)
set_option maxHeartbeats 4000000 in
theorem kn_X6_faultOfWord (K : gK) (a : Nat) (b1 : Nat) (a_letters : Nat) (b1_berths : Nat) (b1_pitch : Nat) (b1_loud : Nat) (b1_depth : Nat) (b1_from : Nat) (b1_to : Nat) (b1_mate : Nat) (s_a_length : Int32) (s_a_faultPlace : Int32) (s_a_fault : Int32) (s_a_place : Int32) (s_a_numberPlace : Int32) (s_b1_law : Int32) (s_a_isLawTold : Int32) (s_b1_cars : Int32) (s_b1_sleepers : Int32) (s_b1_couples : Int32) (p2 : Int32) {o : Int32} (hF : F_X6_faultOfWord s_a_isLawTold s_b1_cars s_b1_sleepers s_b1_couples p2 = some o) : Kn K M_X6_faultOfWord [.ref a, .ref b1, .int p2] (C_X6_faultOfWord K a b1 a_letters b1_berths b1_pitch b1_loud b1_depth b1_from b1_to b1_mate s_a_length s_a_faultPlace s_a_fault s_a_place s_a_numberPlace s_a_isLawTold s_b1_cars s_b1_sleepers s_b1_couples s_b1_law) (O_X6_faultOfWord K a b1 a_letters b1_berths b1_pitch b1_loud b1_depth b1_from b1_to b1_mate s_a_length s_a_faultPlace s_a_fault s_a_place s_a_numberPlace s_b1_law s_a_isLawTold s_b1_cars s_b1_sleepers s_b1_couples o) := by
  refine kn_of (by decide +kernel) (Nat.le_of_ble_eq_true rfl) (fun X hR => ?_)
  refine go_loc (L' := [(0, .ref a), (1, .ref b1), (2, .int p2)]) [0, 1, 2] rfl ?_
  unfold F_X6_faultOfWord at hF
  refine go_aload_n 1 dX6_faultOfWord_0 rfl rfl ?_
  refine go_get 7 1 0 hcX7 inX7 (Nat.le_of_ble_eq_true rfl) wd133 rfl rfl dX6_faultOfWord_1 ?_
  refine go_if_ne 11 hF dX6_faultOfWord_4 (by decide) (fun hF => ?_) (fun hF => ?_)
  · refine go_iconst (v := (0 : Int32)) dX6_faultOfWord_11 (by decide) ?_
    exact G_X6_faultOfWord_12 s_a_isLawTold s_b1_cars s_b1_sleepers s_b1_couples p2 a b1 a_letters b1_berths b1_pitch b1_loud b1_depth b1_from b1_to b1_mate s_a_length s_a_faultPlace s_a_fault s_a_place s_a_numberPlace s_b1_law hR  (0 : Int32) hF
  · refine go_iconst (v := (1 : Int32)) dX6_faultOfWord_7 (by decide) ?_
    refine go_goto 12 dX6_faultOfWord_8 (by decide) ?_
    exact G_X6_faultOfWord_12 s_a_isLawTold s_b1_cars s_b1_sleepers s_b1_couples p2 a b1 a_letters b1_berths b1_pitch b1_loud b1_depth b1_from b1_to b1_mate s_a_length s_a_faultPlace s_a_fault s_a_place s_a_numberPlace s_b1_law hR  (1 : Int32) hF
theorem ok_X6_faultOfWord : gOkV M_X6_faultOfWord 2 := ⟨⟨wd442, wd65, by decide +kernel, by decide +kernel, by decide +kernel⟩, wd441, wd3⟩
def C_X6_fail (K : gK) (a : Nat) (a_letters : Nat) (s_a_length : Int32) (s_a_faultPlace : Int32) (s_a_fault : Int32) (s_a_place : Int32) (s_a_numberPlace : Int32) (s_a_isLawTold : Int32) : va_W := [(a, .inr (6, [.ref a_letters, .int s_a_length, .int s_a_faultPlace, .int s_a_fault, .int s_a_place, .int s_a_numberPlace, .int s_a_isLawTold]))]
def M_X6_fail : gM := (yX6_fail, cX6_fail, 3, none, { frames := 0, cells := 0, slots := 0, locals := 0 })
def O_X6_fail (K : gK) (a : Nat) (a_letters : Nat) (s_a_length : Int32) (s_a_place : Int32) (s_a_numberPlace : Int32) (s_a_isLawTold : Int32) (o : Int32 × Int32) : Option Value → va_W → Prop := fun r w => r = none ∧ w = C_X6_fail K a a_letters s_a_length o.1 o.2 s_a_place s_a_numberPlace s_a_isLawTold
noncomputable def F_X6_fail (s_a_faultPlace : Int32) (s_a_fault : Int32) (p1 : Int32) (p2 : Int32) : Option (Int32 × Int32) := if s_a_fault = 0 then some (p2, p1) else some (s_a_faultPlace, s_a_fault)
set_option maxHeartbeats 4000000 in
theorem kn_X6_fail (K : gK) (a : Nat) (a_letters : Nat) (s_a_length : Int32) (s_a_place : Int32) (s_a_numberPlace : Int32) (s_a_isLawTold : Int32) (s_a_faultPlace : Int32) (s_a_fault : Int32) (p1 : Int32) (p2 : Int32) {o : Int32 × Int32} (hF : F_X6_fail s_a_faultPlace s_a_fault p1 p2 = some o) : Kn K M_X6_fail [.ref a, .int p1, .int p2] (C_X6_fail K a a_letters s_a_length s_a_faultPlace s_a_fault s_a_place s_a_numberPlace s_a_isLawTold) (O_X6_fail K a a_letters s_a_length s_a_place s_a_numberPlace s_a_isLawTold o) := by
  refine kn_of (by decide +kernel) (Nat.le_of_ble_eq_true rfl) (fun X hR => ?_)
  refine go_loc (L' := [(0, .ref a), (1, .int p1), (2, .int p2)]) [0, 1, 2] rfl ?_
  unfold F_X6_fail at hF
  refine go_aload_n 0 dX6_fail_0 rfl rfl ?_
  refine go_get 6 0 3 hcX6 inX6 (Nat.le_of_ble_eq_true rfl) wd96 rfl rfl dX6_fail_1 ?_
  refine go_if_ne 17 hF dX6_fail_4 (by decide) (fun hF => ?_) (fun hF => ?_)
  · exact go_vret (Om := O_X6_fail K a a_letters s_a_length s_a_place s_a_numberPlace s_a_isLawTold) hR hF dX6_fail_17 rfl (Nat.zero_le _) (Nat.zero_le _) ⟨rfl, rfl⟩
  · refine go_aload_n 0 dX6_fail_7 rfl rfl ?_
    refine go_iload_n 1 dX6_fail_8 rfl rfl ?_
    refine go_put 6 0 3 (C_X6_fail K a a_letters s_a_length s_a_faultPlace p1 s_a_place s_a_numberPlace s_a_isLawTold) hcX6 inX6 tyX6_ok nmX6 (Nat.le_of_ble_eq_true rfl) wd96 rfl rfl rfl rfl (Nat.le_of_ble_eq_true rfl) rfl dX6_fail_9 ?_
    refine go_aload_n 0 dX6_fail_12 rfl rfl ?_
    refine go_iload_n 2 dX6_fail_13 rfl rfl ?_
    refine go_put 6 0 2 (C_X6_fail K a a_letters s_a_length p2 p1 s_a_place s_a_numberPlace s_a_isLawTold) hcX6 inX6 tyX6_ok nmX6 (Nat.le_of_ble_eq_true rfl) wd95 rfl rfl rfl rfl (Nat.le_of_ble_eq_true rfl) rfl dX6_fail_14 ?_
    exact go_vret (Om := O_X6_fail K a a_letters s_a_length s_a_place s_a_numberPlace s_a_isLawTold) hR hF dX6_fail_17 rfl (Nat.zero_le _) (Nat.zero_le _) ⟨rfl, rfl⟩
theorem ok_X6_fail : gOkV M_X6_fail 2 := ⟨⟨wd446, wd65, by decide +kernel, by decide +kernel, by decide +kernel⟩, wd445, wd4⟩
def C_X6_isFigure (K : gK)  : va_W := []
def M_X6_isFigure : gM := (yX6_isFigure, cX6_isFigure, 1, (some .boolean), { frames := 0, cells := 0, slots := 0, locals := 0 })
def O_X6_isFigure (K : gK)  (o : Int32) : Option Value → va_W → Prop := fun r w => r = some (.int o) ∧ w = C_X6_isFigure K 
noncomputable def F_X6_isFigure (p0 : Int32) : Option (Int32) := if p0 < (48 : Int32) then some (0 : Int32) else if (57 : Int32) < p0 then some (0 : Int32) else some (1 : Int32)
set_option maxHeartbeats 4000000 in
theorem kn_X6_isFigure (K : gK) (p0 : Int32) {o : Int32} (hF : F_X6_isFigure p0 = some o) : Kn K M_X6_isFigure [.int p0] (C_X6_isFigure K ) (O_X6_isFigure K  o) := by
  refine kn_of (by decide +kernel) (Nat.le_of_ble_eq_true rfl) (fun X hR => ?_)
  refine go_loc (L' := [(0, .int p0)]) [0] rfl ?_
  unfold F_X6_isFigure at hF
  refine go_iload_n 0 dX6_isFigure_0 rfl rfl ?_
  refine go_bipush (v := (48 : Int32)) dX6_isFigure_1 (by decide) ?_
  refine go_icmp_lt 16 hF dX6_isFigure_3 (by decide) (fun hF => ?_) (fun hF => ?_)
  · refine go_iconst (v := (0 : Int32)) dX6_isFigure_16 (by decide) ?_
    exact go_iret (Om := O_X6_isFigure K ) hR hF dX6_isFigure_17 rfl rfl (Nat.zero_le _) (Nat.zero_le _) ⟨rfl, rfl⟩
  · refine go_iload_n 0 dX6_isFigure_6 rfl rfl ?_
    refine go_bipush (v := (57 : Int32)) dX6_isFigure_7 (by decide) ?_
    refine go_icmp_gt 16 hF dX6_isFigure_9 (by decide) (fun hF => ?_) (fun hF => ?_)
    · refine go_iconst (v := (0 : Int32)) dX6_isFigure_16 (by decide) ?_
      exact go_iret (Om := O_X6_isFigure K ) hR hF dX6_isFigure_17 rfl rfl (Nat.zero_le _) (Nat.zero_le _) ⟨rfl, rfl⟩
    · refine go_iconst (v := (1 : Int32)) dX6_isFigure_12 (by decide) ?_
      refine go_goto 17 dX6_isFigure_13 (by decide) ?_
      exact go_iret (Om := O_X6_isFigure K ) hR hF dX6_isFigure_17 rfl rfl (Nat.zero_le _) (Nat.zero_le _) ⟨rfl, rfl⟩
theorem ok_X6_isFigure : gOkS M_X6_isFigure 1 := ⟨⟨wd457, wd65, by decide +kernel, by decide +kernel, by decide +kernel⟩, wd456⟩
def C_X6_readNumber (K : gK) (a : Nat) (a_letters : Nat) (s_a_length : Int32) (s_a_faultPlace : Int32) (s_a_fault : Int32) (s_a_place : Int32) (s_a_numberPlace : Int32) (s_a_isLawTold : Int32) (f_a_letters : Nat → Int32) : va_W := [(a, .inr (6, [.ref a_letters, .int s_a_length, .int s_a_faultPlace, .int s_a_fault, .int s_a_place, .int s_a_numberPlace, .int s_a_isLawTold])), (a_letters, .inl (kI K, 240, .inl f_a_letters))]
def M_X6_readNumber : gM := (yX6_readNumber, cX6_readNumber, 5, (some .int), { frames := 2, cells := 0, slots := 0, locals := 41 })
def O_X6_readNumber (K : gK) (a : Nat) (a_letters : Nat) (s_a_isLawTold : Int32) (s_a_length : Int32) (f_a_letters : Nat → Int32) (o : Int32 × Int32 × Int32 × Int32 × Int32) : Option Value → va_W → Prop := fun r w => r = some (.int o.1) ∧ w = C_X6_readNumber K a a_letters s_a_length o.2.1 o.2.2.1 o.2.2.2.1 o.2.2.2.2 s_a_isLawTold f_a_letters
noncomputable def B_X6_readNumber_130 (N : Nat) (s_a_length : Int32) (f_a_letters : Nat → Int32) (p1 : Int32) (p2 : Int32)  (s_a_faultPlace : Int32) (s_a_fault : Int32) (s_a_place : Int32) (s_a_numberPlace : Int32) (x4 : Int32) : Option (Int32 × Int32 × Int32 × Int32 × Int32) := bnd (F_X6_fail s_a_faultPlace s_a_fault (2 : Int32) s_a_numberPlace) (fun o2 => some (x4, o2.1, o2.2, s_a_place, s_a_numberPlace))
set_option maxHeartbeats 4000000 in
theorem G_X6_readNumber_130 {K : gK} {X : gX} {wi : va_W} {o : Int32 × Int32 × Int32 × Int32 × Int32} (N : Nat) (s_a_length : Int32) (f_a_letters : Nat → Int32) (p1 : Int32) (p2 : Int32) (a : Nat) (a_letters : Nat) (s_a_isLawTold : Int32) (hR : gR K X M_X6_readNumber wi (O_X6_readNumber K a a_letters s_a_isLawTold s_a_length f_a_letters o))  (s_a_faultPlace : Int32) (s_a_fault : Int32) (s_a_place : Int32) (s_a_numberPlace : Int32) (x4 : Int32) (hF : B_X6_readNumber_130 N s_a_length f_a_letters p1 p2  s_a_faultPlace s_a_fault s_a_place s_a_numberPlace x4 = some o) : Go K X M_X6_readNumber 0 0 (C_X6_readNumber K a a_letters s_a_length s_a_faultPlace s_a_fault s_a_place s_a_numberPlace s_a_isLawTold f_a_letters) [(0, .ref a), (4, .int x4)] 130 [] := by
  unfold B_X6_readNumber_130 at hF
  refine go_aload_n 0 dX6_readNumber_130 rfl rfl ?_
  refine go_iconst (v := (2 : Int32)) dX6_readNumber_131 (by decide) ?_
  refine go_aload_n 0 dX6_readNumber_132 rfl rfl ?_
  refine go_get 6 0 5 hcX6 inX6 (Nat.le_of_ble_eq_true rfl) wd98 rfl rfl dX6_readNumber_133 ?_
  obtain ⟨o2, ho2, hF⟩ := bnd_elim hF
  refine go_callV (As := [.int (2 : Int32), .int s_a_numberPlace]) (rest := []) (wr := [(a_letters, .inl (kI K, 240, .inl f_a_letters))]) 6 0 hcX6 rfl (kn_X6_fail K a a_letters s_a_length s_a_place s_a_numberPlace s_a_isLawTold s_a_faultPlace s_a_fault (2 : Int32) s_a_numberPlace ho2) ok_X6_fail ⟨Nat.le_of_ble_eq_true rfl, Nat.le_of_ble_eq_true rfl⟩ ⟨Nat.le_of_ble_eq_true rfl, Nat.le_of_ble_eq_true rfl⟩ wd443 rfl rfl (Nat.le_of_ble_eq_true rfl) dX6_readNumber_136 [0] [1] rfl rfl rfl rfl (by decide) (fun r wo hO => ?_)
  obtain ⟨rfl, rfl⟩ := hO
  refine go_ws (ws' := C_X6_readNumber K a a_letters s_a_length o2.1 o2.2 s_a_place s_a_numberPlace s_a_isLawTold f_a_letters) [1, 0] rfl rfl ?_
  refine go_eq (pc' := 139) (st' := []) rfl rfl ?_
  refine go_iload 1 dX6_readNumber_139 rfl ?_
  exact go_iret (Om := O_X6_readNumber K a a_letters s_a_isLawTold s_a_length f_a_letters) hR hF dX6_readNumber_141 rfl rfl (Nat.zero_le _) (Nat.zero_le _) ⟨rfl, rfl⟩
noncomputable def B_X6_readNumber_97 (N : Nat) (s_a_length : Int32) (f_a_letters : Nat → Int32) (p1 : Int32) (p2 : Int32)  (s_a_faultPlace : Int32) (s_a_fault : Int32) (s_a_place : Int32) (s_a_numberPlace : Int32) (x3 : Int32) (x4 : Int32) : Option (Int32 × Int32 × Int32 × Int32 × Int32) := if x3 = 0 then bnd (F_X6_fail s_a_faultPlace s_a_fault (1 : Int32) s_a_place) (fun o3 => some (x4, o3.1, o3.2, s_a_place, s_a_numberPlace)) else if (3 : Int32) < x3 then B_X6_readNumber_130 N s_a_length f_a_letters p1 p2 s_a_faultPlace s_a_fault s_a_place s_a_numberPlace x4 else if x4 < p1 then B_X6_readNumber_130 N s_a_length f_a_letters p1 p2 s_a_faultPlace s_a_fault s_a_place s_a_numberPlace x4 else if x4 ≤ p2 then some (x4, s_a_faultPlace, s_a_fault, s_a_place, s_a_numberPlace) else B_X6_readNumber_130 N s_a_length f_a_letters p1 p2 s_a_faultPlace s_a_fault s_a_place s_a_numberPlace x4
set_option maxHeartbeats 4000000 in
theorem G_X6_readNumber_97 {K : gK} {X : gX} {wi : va_W} {o : Int32 × Int32 × Int32 × Int32 × Int32} (N : Nat) (s_a_length : Int32) (f_a_letters : Nat → Int32) (p1 : Int32) (p2 : Int32) (a : Nat) (a_letters : Nat) (s_a_isLawTold : Int32) (hR : gR K X M_X6_readNumber wi (O_X6_readNumber K a a_letters s_a_isLawTold s_a_length f_a_letters o))  (s_a_faultPlace : Int32) (s_a_fault : Int32) (s_a_place : Int32) (s_a_numberPlace : Int32) (x3 : Int32) (x4 : Int32) (hF : B_X6_readNumber_97 N s_a_length f_a_letters p1 p2  s_a_faultPlace s_a_fault s_a_place s_a_numberPlace x3 x4 = some o) : Go K X M_X6_readNumber 0 0 (C_X6_readNumber K a a_letters s_a_length s_a_faultPlace s_a_fault s_a_place s_a_numberPlace s_a_isLawTold f_a_letters) [(0, .ref a), (1, .int p1), (2, .int p2), (3, .int x3), (4, .int x4)] 97 [] := by
  unfold B_X6_readNumber_97 at hF
  refine go_iload_n 3 dX6_readNumber_97 rfl rfl ?_
  refine go_if_ne 113 hF dX6_readNumber_98 (by decide) (fun hF => ?_) (fun hF => ?_)
  · refine go_iload_n 3 dX6_readNumber_113 rfl rfl ?_
    refine go_iconst (v := (3 : Int32)) dX6_readNumber_114 (by decide) ?_
    refine go_icmp_gt 130 hF dX6_readNumber_115 (by decide) (fun hF => ?_) (fun hF => ?_)
    · refine go_loc (L' := [(0, .ref a), (4, .int x4)]) [0, 4] rfl ?_
      exact G_X6_readNumber_130 N s_a_length f_a_letters p1 p2 a a_letters s_a_isLawTold hR  s_a_faultPlace s_a_fault s_a_place s_a_numberPlace x4 hF
    · refine go_iload 4 dX6_readNumber_118 rfl ?_
      refine go_iload_n 1 dX6_readNumber_120 rfl rfl ?_
      refine go_icmp_lt 130 hF dX6_readNumber_121 (by decide) (fun hF => ?_) (fun hF => ?_)
      · refine go_loc (L' := [(0, .ref a), (4, .int x4)]) [0, 4] rfl ?_
        exact G_X6_readNumber_130 N s_a_length f_a_letters p1 p2 a a_letters s_a_isLawTold hR  s_a_faultPlace s_a_fault s_a_place s_a_numberPlace x4 hF
      · refine go_iload 4 dX6_readNumber_124 rfl ?_
        refine go_iload_n 2 dX6_readNumber_126 rfl rfl ?_
        refine go_icmp_le 139 hF dX6_readNumber_127 (by decide) (fun hF => ?_) (fun hF => ?_)
        · refine go_iload 4 dX6_readNumber_139 rfl ?_
          exact go_iret (Om := O_X6_readNumber K a a_letters s_a_isLawTold s_a_length f_a_letters) hR hF dX6_readNumber_141 rfl rfl (Nat.zero_le _) (Nat.zero_le _) ⟨rfl, rfl⟩
        · refine go_loc (L' := [(0, .ref a), (4, .int x4)]) [0, 4] rfl ?_
          exact G_X6_readNumber_130 N s_a_length f_a_letters p1 p2 a a_letters s_a_isLawTold hR  s_a_faultPlace s_a_fault s_a_place s_a_numberPlace x4 hF
  · refine go_aload_n 0 dX6_readNumber_101 rfl rfl ?_
    refine go_iconst (v := (1 : Int32)) dX6_readNumber_102 (by decide) ?_
    refine go_aload_n 0 dX6_readNumber_103 rfl rfl ?_
    refine go_get 6 0 4 hcX6 inX6 (Nat.le_of_ble_eq_true rfl) wd97 rfl rfl dX6_readNumber_104 ?_
    obtain ⟨o3, ho3, hF⟩ := bnd_elim hF
    refine go_callV (As := [.int (1 : Int32), .int s_a_place]) (rest := []) (wr := [(a_letters, .inl (kI K, 240, .inl f_a_letters))]) 6 0 hcX6 rfl (kn_X6_fail K a a_letters s_a_length s_a_place s_a_numberPlace s_a_isLawTold s_a_faultPlace s_a_fault (1 : Int32) s_a_place ho3) ok_X6_fail ⟨Nat.le_of_ble_eq_true rfl, Nat.le_of_ble_eq_true rfl⟩ ⟨Nat.le_of_ble_eq_true rfl, Nat.le_of_ble_eq_true rfl⟩ wd443 rfl rfl (Nat.le_of_ble_eq_true rfl) dX6_readNumber_107 [0] [1] rfl rfl rfl rfl (by decide) (fun r wo hO => ?_)
    obtain ⟨rfl, rfl⟩ := hO
    refine go_ws (ws' := C_X6_readNumber K a a_letters s_a_length o3.1 o3.2 s_a_place s_a_numberPlace s_a_isLawTold f_a_letters) [1, 0] rfl rfl ?_
    refine go_eq (pc' := 110) (st' := []) rfl rfl ?_
    refine go_goto 139 dX6_readNumber_110 (by decide) ?_
    refine go_iload 4 dX6_readNumber_139 rfl ?_
    exact go_iret (Om := O_X6_readNumber K a a_letters s_a_isLawTold s_a_length f_a_letters) hR hF dX6_readNumber_141 rfl rfl (Nat.zero_le _) (Nat.zero_le _) ⟨rfl, rfl⟩
noncomputable def B_X6_readNumber_84 (N : Nat) (s_a_length : Int32) (f_a_letters : Nat → Int32) (p1 : Int32) (p2 : Int32) (k26 : Int32 → Int32 → Int32 → Int32 → Int32 → Int32 → Option (Int32 × Int32 × Int32 × Int32 × Int32)) (s_a_faultPlace : Int32) (s_a_fault : Int32) (s_a_place : Int32) (s_a_numberPlace : Int32) (x3 : Int32) (x4 : Int32) : Option (Int32 × Int32 × Int32 × Int32 × Int32) := nm (s_a_place + (1 : Int32)) (fun v7 => k26 s_a_faultPlace s_a_fault v7 s_a_numberPlace x3 x4)
set_option maxHeartbeats 4000000 in
theorem G_X6_readNumber_84 {K : gK} {X : gX} {wi : va_W} {o : Int32 × Int32 × Int32 × Int32 × Int32} (N : Nat) (s_a_length : Int32) (f_a_letters : Nat → Int32) (p1 : Int32) (p2 : Int32) (a : Nat) (a_letters : Nat) (s_a_isLawTold : Int32) (hR : gR K X M_X6_readNumber wi (O_X6_readNumber K a a_letters s_a_isLawTold s_a_length f_a_letters o)) (k26 : Int32 → Int32 → Int32 → Int32 → Int32 → Int32 → Option (Int32 × Int32 × Int32 × Int32 × Int32)) (hk26 : ∀ (s_a_faultPlace : Int32) (s_a_fault : Int32) (s_a_place : Int32) (s_a_numberPlace : Int32) (x3 : Int32) (x4 : Int32), k26 s_a_faultPlace s_a_fault s_a_place s_a_numberPlace x3 x4 = some o → Go K X M_X6_readNumber 0 0 (C_X6_readNumber K a a_letters s_a_length s_a_faultPlace s_a_fault s_a_place s_a_numberPlace s_a_isLawTold f_a_letters) [(0, .ref a), (1, .int p1), (2, .int p2), (3, .int x3), (4, .int x4)] 26 []) (s_a_faultPlace : Int32) (s_a_fault : Int32) (s_a_place : Int32) (s_a_numberPlace : Int32) (x3 : Int32) (x4 : Int32) (hF : B_X6_readNumber_84 N s_a_length f_a_letters p1 p2 k26 s_a_faultPlace s_a_fault s_a_place s_a_numberPlace x3 x4 = some o) : Go K X M_X6_readNumber 0 0 (C_X6_readNumber K a a_letters s_a_length s_a_faultPlace s_a_fault s_a_place s_a_numberPlace s_a_isLawTold f_a_letters) [(0, .ref a), (1, .int p1), (2, .int p2), (3, .int x3), (4, .int x4)] 84 [] := by
  unfold B_X6_readNumber_84 at hF
  refine go_aload_n 0 dX6_readNumber_84 rfl rfl ?_
  refine go_dup dX6_readNumber_85 rfl ?_
  refine go_get 6 0 4 hcX6 inX6 (Nat.le_of_ble_eq_true rfl) wd97 rfl rfl dX6_readNumber_86 ?_
  refine go_iconst (v := (1 : Int32)) dX6_readNumber_89 (by decide) ?_
  refine go_iadd dX6_readNumber_90 ?_
  refine go_nmi hF (fun v7 hF => ?_)
  refine go_put 6 0 4 (C_X6_readNumber K a a_letters s_a_length s_a_faultPlace s_a_fault v7 s_a_numberPlace s_a_isLawTold f_a_letters) hcX6 inX6 tyX6_ok nmX6 (Nat.le_of_ble_eq_true rfl) wd97 rfl rfl rfl rfl (Nat.le_of_ble_eq_true rfl) rfl dX6_readNumber_91 ?_
  refine go_goto 26 dX6_readNumber_94 (by decide) ?_
  exact hk26 s_a_faultPlace s_a_fault v7 s_a_numberPlace x3 x4 hF
noncomputable def B_X6_readNumber_26 (N : Nat) (s_a_length : Int32) (f_a_letters : Nat → Int32) (p1 : Int32) (p2 : Int32) (k26 : Int32 → Int32 → Int32 → Int32 → Int32 → Int32 → Option (Int32 × Int32 × Int32 × Int32 × Int32)) (s_a_faultPlace : Int32) (s_a_fault : Int32) (s_a_place : Int32) (s_a_numberPlace : Int32) (x3 : Int32) (x4 : Int32) : Option (Int32 × Int32 × Int32 × Int32 × Int32) := if s_a_length ≤ s_a_place then B_X6_readNumber_97 N s_a_length f_a_letters p1 p2 s_a_faultPlace s_a_fault s_a_place s_a_numberPlace x3 x4 else bnd (F_X8_at 240 f_a_letters s_a_place) (fun o4 => bnd (F_X6_isFigure o4) (fun o5 => if o5 = 0 then B_X6_readNumber_97 N s_a_length f_a_letters p1 p2 s_a_faultPlace s_a_fault s_a_place s_a_numberPlace x3 x4 else nm (x3 + (1 : Int32)) (fun v6 => if (3 : Int32) < v6 then B_X6_readNumber_84 N s_a_length f_a_letters p1 p2 k26 s_a_faultPlace s_a_fault s_a_place s_a_numberPlace v6 x4 else bnd (F_X8_at 240 f_a_letters s_a_place) (fun o8 => nm ((((10 : Int32) * x4) + o8) - (48 : Int32)) (fun v9 => B_X6_readNumber_84 N s_a_length f_a_letters p1 p2 k26 s_a_faultPlace s_a_fault s_a_place s_a_numberPlace v6 v9)))))
noncomputable def F_X6_readNumber_26 (N : Nat) (s_a_length : Int32) (f_a_letters : Nat → Int32) (p1 : Int32) (p2 : Int32)  : Nat → Int32 → Int32 → Int32 → Int32 → Int32 → Int32 → Option (Int32 × Int32 × Int32 × Int32 × Int32) := lq6 (fun self => B_X6_readNumber_26 N s_a_length f_a_letters p1 p2  self)
set_option maxHeartbeats 4000000 in
theorem G_X6_readNumber_26 {K : gK} {X : gX} {wi : va_W} {o : Int32 × Int32 × Int32 × Int32 × Int32} (N : Nat) (s_a_length : Int32) (f_a_letters : Nat → Int32) (p1 : Int32) (p2 : Int32) (a : Nat) (a_letters : Nat) (s_a_isLawTold : Int32) (hR : gR K X M_X6_readNumber wi (O_X6_readNumber K a a_letters s_a_isLawTold s_a_length f_a_letters o)) (k26 : Int32 → Int32 → Int32 → Int32 → Int32 → Int32 → Option (Int32 × Int32 × Int32 × Int32 × Int32)) (hk26 : ∀ (s_a_faultPlace : Int32) (s_a_fault : Int32) (s_a_place : Int32) (s_a_numberPlace : Int32) (x3 : Int32) (x4 : Int32), k26 s_a_faultPlace s_a_fault s_a_place s_a_numberPlace x3 x4 = some o → Go K X M_X6_readNumber 0 0 (C_X6_readNumber K a a_letters s_a_length s_a_faultPlace s_a_fault s_a_place s_a_numberPlace s_a_isLawTold f_a_letters) [(0, .ref a), (1, .int p1), (2, .int p2), (3, .int x3), (4, .int x4)] 26 []) (s_a_faultPlace : Int32) (s_a_fault : Int32) (s_a_place : Int32) (s_a_numberPlace : Int32) (x3 : Int32) (x4 : Int32) (hF : B_X6_readNumber_26 N s_a_length f_a_letters p1 p2 k26 s_a_faultPlace s_a_fault s_a_place s_a_numberPlace x3 x4 = some o) : Go K X M_X6_readNumber 0 0 (C_X6_readNumber K a a_letters s_a_length s_a_faultPlace s_a_fault s_a_place s_a_numberPlace s_a_isLawTold f_a_letters) [(0, .ref a), (1, .int p1), (2, .int p2), (3, .int x3), (4, .int x4)] 26 [] := by
  unfold B_X6_readNumber_26 at hF
  refine go_aload_n 0 dX6_readNumber_26 rfl rfl ?_
  refine go_get 6 0 4 hcX6 inX6 (Nat.le_of_ble_eq_true rfl) wd97 rfl rfl dX6_readNumber_27 ?_
  refine go_aload_n 0 dX6_readNumber_30 rfl rfl ?_
  refine go_get 6 0 1 hcX6 inX6 (Nat.le_of_ble_eq_true rfl) wd92 rfl rfl dX6_readNumber_31 ?_
  refine go_icmp_ge 97 hF dX6_readNumber_34 (by decide) (fun hF => ?_) (fun hF => ?_)
  · exact G_X6_readNumber_97 N s_a_length f_a_letters p1 p2 a a_letters s_a_isLawTold hR  s_a_faultPlace s_a_fault s_a_place s_a_numberPlace x3 x4 hF
  · refine go_aload_n 0 dX6_readNumber_37 rfl rfl ?_
    refine go_get 6 0 0 hcX6 inX6 (Nat.le_of_ble_eq_true rfl) wd91 rfl rfl dX6_readNumber_38 ?_
    refine go_aload_n 0 dX6_readNumber_41 rfl rfl ?_
    refine go_get 6 0 4 hcX6 inX6 (Nat.le_of_ble_eq_true rfl) wd97 rfl rfl dX6_readNumber_42 ?_
    obtain ⟨o4, ho4, hF⟩ := bnd_elim hF
    refine go_callSN (As := [.ref a_letters, .int s_a_place]) (rest := []) (wr := [(a, .inr (6, [.ref a_letters, .int s_a_length, .int s_a_faultPlace, .int s_a_fault, .int s_a_place, .int s_a_numberPlace, .int s_a_isLawTold]))]) (kn_X8_at K a_letters 240 f_a_letters s_a_place ho4) ok_X8_at ⟨Nat.le_of_ble_eq_true rfl, Nat.le_of_ble_eq_true rfl⟩ ⟨Nat.le_of_ble_eq_true rfl, Nat.le_of_ble_eq_true rfl⟩ ns7 rfl rfl (Nat.le_of_ble_eq_true rfl) dX6_readNumber_45 [1] [0] rfl rfl rfl rfl (by decide) (fun r wo hO => ?_)
    obtain ⟨rfl, rfl⟩ := hO
    refine go_ws (ws' := C_X6_readNumber K a a_letters s_a_length s_a_faultPlace s_a_fault s_a_place s_a_numberPlace s_a_isLawTold f_a_letters) [0, 1] rfl rfl ?_
    refine go_eq (pc' := 48) (st' := [.int o4]) rfl rfl ?_
    obtain ⟨o5, ho5, hF⟩ := bnd_elim hF
    refine go_callS (As := [.int o4]) (rest := []) (wr := [(a, .inr (6, [.ref a_letters, .int s_a_length, .int s_a_faultPlace, .int s_a_fault, .int s_a_place, .int s_a_numberPlace, .int s_a_isLawTold])), (a_letters, .inl (kI K, 240, .inl f_a_letters))]) (kn_X6_isFigure K o4 ho5) ok_X6_isFigure ⟨Nat.le_of_ble_eq_true rfl, Nat.le_of_ble_eq_true rfl⟩ ⟨Nat.le_of_ble_eq_true rfl, Nat.le_of_ble_eq_true rfl⟩ wd455 rfl rfl (Nat.le_of_ble_eq_true rfl) dX6_readNumber_48 [] [0, 1] rfl rfl rfl rfl (by decide) (fun r wo hO => ?_)
    obtain ⟨rfl, rfl⟩ := hO
    refine go_ws (ws' := C_X6_readNumber K a a_letters s_a_length s_a_faultPlace s_a_fault s_a_place s_a_numberPlace s_a_isLawTold f_a_letters) [0, 1] rfl rfl ?_
    refine go_eq (pc' := 51) (st' := [.int o5]) rfl rfl ?_
    refine go_if_eq 97 hF dX6_readNumber_51 (by decide) (fun hF => ?_) (fun hF => ?_)
    · exact G_X6_readNumber_97 N s_a_length f_a_letters p1 p2 a a_letters s_a_isLawTold hR  s_a_faultPlace s_a_fault s_a_place s_a_numberPlace x3 x4 hF
    · refine go_iinc 3 (fun y => [(3, .int y), (0, .ref a), (1, .int p1), (2, .int p2), (4, .int x4)]) hF dX6_readNumber_54 rfl rfl (Nat.le_of_ble_eq_true rfl) (fun _ => rfl) (fun v6 hF => ?_)
      refine go_iload_n 0 dX6_readNumber_57 rfl rfl ?_
      refine go_iconst (v := (3 : Int32)) dX6_readNumber_58 (by decide) ?_
      refine go_icmp_gt 84 hF dX6_readNumber_59 (by decide) (fun hF => ?_) (fun hF => ?_)
      · refine go_loc (L' := [(0, .ref a), (1, .int p1), (2, .int p2), (3, .int v6), (4, .int x4)]) [1, 2, 3, 0, 4] rfl ?_
        exact G_X6_readNumber_84 N s_a_length f_a_letters p1 p2 a a_letters s_a_isLawTold hR k26 hk26 s_a_faultPlace s_a_fault s_a_place s_a_numberPlace v6 x4 hF
      · refine go_bipush (v := (10 : Int32)) dX6_readNumber_62 (by decide) ?_
        refine go_iload 4 dX6_readNumber_64 rfl ?_
        refine go_imul dX6_readNumber_66 ?_
        refine go_aload_n 1 dX6_readNumber_67 rfl rfl ?_
        refine go_get 6 0 0 hcX6 inX6 (Nat.le_of_ble_eq_true rfl) wd91 rfl rfl dX6_readNumber_68 ?_
        refine go_aload_n 1 dX6_readNumber_71 rfl rfl ?_
        refine go_get 6 0 4 hcX6 inX6 (Nat.le_of_ble_eq_true rfl) wd97 rfl rfl dX6_readNumber_72 ?_
        obtain ⟨o8, ho8, hF⟩ := bnd_elim hF
        refine go_callSN (As := [.ref a_letters, .int s_a_place]) (rest := [.int ((10 : Int32) * x4)]) (wr := [(a, .inr (6, [.ref a_letters, .int s_a_length, .int s_a_faultPlace, .int s_a_fault, .int s_a_place, .int s_a_numberPlace, .int s_a_isLawTold]))]) (kn_X8_at K a_letters 240 f_a_letters s_a_place ho8) ok_X8_at ⟨Nat.le_of_ble_eq_true rfl, Nat.le_of_ble_eq_true rfl⟩ ⟨Nat.le_of_ble_eq_true rfl, Nat.le_of_ble_eq_true rfl⟩ ns7 rfl rfl (Nat.le_of_ble_eq_true rfl) dX6_readNumber_75 [1] [0] rfl rfl rfl rfl (by decide) (fun r wo hO => ?_)
        obtain ⟨rfl, rfl⟩ := hO
        refine go_ws (ws' := C_X6_readNumber K a a_letters s_a_length s_a_faultPlace s_a_fault s_a_place s_a_numberPlace s_a_isLawTold f_a_letters) [0, 1] rfl rfl ?_
        refine go_eq (pc' := 78) (st' := [.int o8, .int ((10 : Int32) * x4)]) rfl rfl ?_
        refine go_iadd dX6_readNumber_78 ?_
        refine go_bipush (v := (48 : Int32)) dX6_readNumber_79 (by decide) ?_
        refine go_isub dX6_readNumber_81 ?_
        refine go_nmi hF (fun v9 hF => ?_)
        refine go_istore [(4, .int v9), (3, .int v6), (0, .ref a), (1, .int p1), (2, .int p2)] dX6_readNumber_82 (Nat.le_of_ble_eq_true rfl) rfl ?_
        refine go_loc (L' := [(0, .ref a), (1, .int p1), (2, .int p2), (3, .int v6), (4, .int v9)]) [2, 3, 4, 1, 0] rfl ?_
        exact G_X6_readNumber_84 N s_a_length f_a_letters p1 p2 a a_letters s_a_isLawTold hR k26 hk26 s_a_faultPlace s_a_fault s_a_place s_a_numberPlace v6 v9 hF
theorem GL_X6_readNumber_26 {K : gK} {X : gX} {wi : va_W} {o : Int32 × Int32 × Int32 × Int32 × Int32} (N : Nat) (s_a_length : Int32) (f_a_letters : Nat → Int32) (p1 : Int32) (p2 : Int32) (a : Nat) (a_letters : Nat) (s_a_isLawTold : Int32) (hR : gR K X M_X6_readNumber wi (O_X6_readNumber K a a_letters s_a_isLawTold s_a_length f_a_letters o))  : ∀ (fuel : Nat) (s_a_faultPlace : Int32) (s_a_fault : Int32) (s_a_place : Int32) (s_a_numberPlace : Int32) (x3 : Int32) (x4 : Int32), F_X6_readNumber_26 N s_a_length f_a_letters p1 p2  fuel s_a_faultPlace s_a_fault s_a_place s_a_numberPlace x3 x4 = some o → Go K X M_X6_readNumber 0 0 (C_X6_readNumber K a a_letters s_a_length s_a_faultPlace s_a_fault s_a_place s_a_numberPlace s_a_isLawTold f_a_letters) [(0, .ref a), (1, .int p1), (2, .int p2), (3, .int x3), (4, .int x4)] 26 [] :=
  lq6_elim (fun self hs s_a_faultPlace s_a_fault s_a_place s_a_numberPlace x3 x4 hF => G_X6_readNumber_26 N s_a_length f_a_letters p1 p2 a a_letters s_a_isLawTold hR  self hs s_a_faultPlace s_a_fault s_a_place s_a_numberPlace x3 x4 hF)
noncomputable def F_X6_readNumber (N : Nat) (s_a_length : Int32) (s_a_faultPlace : Int32) (s_a_fault : Int32) (s_a_place : Int32) (s_a_numberPlace : Int32) (f_a_letters : Nat → Int32) (p1 : Int32) (p2 : Int32) : Option (Int32 × Int32 × Int32 × Int32 × Int32) := bnd (F_X6_skipBlanks N s_a_length s_a_place f_a_letters) (fun o1 => if s_a_fault = 0 then F_X6_readNumber_26 N s_a_length f_a_letters p1 p2 N s_a_faultPlace s_a_fault o1 o1 (0 : Int32) (0 : Int32) else some (p1, s_a_faultPlace, s_a_fault, o1, s_a_numberPlace))
set_option maxHeartbeats 4000000 in
theorem kn_X6_readNumber (K : gK) (N : Nat) (a : Nat) (a_letters : Nat) (s_a_isLawTold : Int32) (s_a_length : Int32) (s_a_faultPlace : Int32) (s_a_fault : Int32) (s_a_place : Int32) (s_a_numberPlace : Int32) (f_a_letters : Nat → Int32) (p1 : Int32) (p2 : Int32) {o : Int32 × Int32 × Int32 × Int32 × Int32} (hF : F_X6_readNumber N s_a_length s_a_faultPlace s_a_fault s_a_place s_a_numberPlace f_a_letters p1 p2 = some o) : Kn K M_X6_readNumber [.ref a, .int p1, .int p2] (C_X6_readNumber K a a_letters s_a_length s_a_faultPlace s_a_fault s_a_place s_a_numberPlace s_a_isLawTold f_a_letters) (O_X6_readNumber K a a_letters s_a_isLawTold s_a_length f_a_letters o) := by
  refine kn_of (by decide +kernel) (Nat.le_of_ble_eq_true rfl) (fun X hR => ?_)
  refine go_loc (L' := [(0, .ref a), (1, .int p1), (2, .int p2)]) [0, 1, 2] rfl ?_
  unfold F_X6_readNumber at hF
  refine go_aload_n 0 dX6_readNumber_0 rfl rfl ?_
  obtain ⟨o1, ho1, hF⟩ := bnd_elim hF
  refine go_callV (As := []) (rest := []) (wr := []) 6 0 hcX6 rfl (kn_X6_skipBlanks K N a a_letters s_a_faultPlace s_a_fault s_a_numberPlace s_a_isLawTold s_a_length s_a_place f_a_letters ho1) ok_X6_skipBlanks ⟨Nat.le_of_ble_eq_true rfl, Nat.le_of_ble_eq_true rfl⟩ ⟨Nat.le_of_ble_eq_true rfl, Nat.le_of_ble_eq_true rfl⟩ wd424 rfl rfl (Nat.le_of_ble_eq_true rfl) dX6_readNumber_1 [0, 1] [] rfl rfl rfl rfl (by decide) (fun r wo hO => ?_)
  obtain ⟨rfl, rfl⟩ := hO
  refine go_ws (ws' := C_X6_readNumber K a a_letters s_a_length s_a_faultPlace s_a_fault o1 s_a_numberPlace s_a_isLawTold f_a_letters) [0, 1] rfl rfl ?_
  refine go_eq (pc' := 4) (st' := []) rfl rfl ?_
  refine go_aload_n 0 dX6_readNumber_4 rfl rfl ?_
  refine go_get 6 0 3 hcX6 inX6 (Nat.le_of_ble_eq_true rfl) wd96 rfl rfl dX6_readNumber_5 ?_
  refine go_if_eq 13 hF dX6_readNumber_8 (by decide) (fun hF => ?_) (fun hF => ?_)
  · refine go_aload_n 0 dX6_readNumber_13 rfl rfl ?_
    refine go_aload_n 0 dX6_readNumber_14 rfl rfl ?_
    refine go_get 6 0 4 hcX6 inX6 (Nat.le_of_ble_eq_true rfl) wd97 rfl rfl dX6_readNumber_15 ?_
    refine go_put 6 0 5 (C_X6_readNumber K a a_letters s_a_length s_a_faultPlace s_a_fault o1 o1 s_a_isLawTold f_a_letters) hcX6 inX6 tyX6_ok nmX6 (Nat.le_of_ble_eq_true rfl) wd98 rfl rfl rfl rfl (Nat.le_of_ble_eq_true rfl) rfl dX6_readNumber_18 ?_
    refine go_iconst (v := (0 : Int32)) dX6_readNumber_21 (by decide) ?_
    refine go_istore_n [(3, .int (0 : Int32)), (0, .ref a), (1, .int p1), (2, .int p2)] dX6_readNumber_22 rfl (Nat.le_of_ble_eq_true rfl) rfl ?_
    refine go_iconst (v := (0 : Int32)) dX6_readNumber_23 (by decide) ?_
    refine go_istore [(4, .int (0 : Int32)), (3, .int (0 : Int32)), (0, .ref a), (1, .int p1), (2, .int p2)] dX6_readNumber_24 (Nat.le_of_ble_eq_true rfl) rfl ?_
    refine go_loc (L' := [(0, .ref a), (1, .int p1), (2, .int p2), (3, .int (0 : Int32)), (4, .int (0 : Int32))]) [2, 3, 4, 1, 0] rfl ?_
    exact GL_X6_readNumber_26 N s_a_length f_a_letters p1 p2 a a_letters s_a_isLawTold hR  N s_a_faultPlace s_a_fault o1 o1 (0 : Int32) (0 : Int32) hF
  · refine go_iload_n 1 dX6_readNumber_11 rfl rfl ?_
    exact go_iret (Om := O_X6_readNumber K a a_letters s_a_isLawTold s_a_length f_a_letters) hR hF dX6_readNumber_12 rfl rfl (Nat.zero_le _) (Nat.zero_le _) ⟨rfl, rfl⟩
theorem ok_X6_readNumber : gOkV M_X6_readNumber 2 := ⟨⟨wd454, wd65, by decide +kernel, by decide +kernel, by decide +kernel⟩, wd453, wd6⟩
def C_X6_readComma (K : gK) (a : Nat) (a_letters : Nat) (s_a_length : Int32) (s_a_faultPlace : Int32) (s_a_fault : Int32) (s_a_place : Int32) (s_a_numberPlace : Int32) (s_a_isLawTold : Int32) (f_a_letters : Nat → Int32) : va_W := [(a, .inr (6, [.ref a_letters, .int s_a_length, .int s_a_faultPlace, .int s_a_fault, .int s_a_place, .int s_a_numberPlace, .int s_a_isLawTold])), (a_letters, .inl (kI K, 240, .inl f_a_letters))]
def M_X6_readComma : gM := (yX6_readComma, cX6_readComma, 3, (some .boolean), { frames := 2, cells := 0, slots := 0, locals := 41 })
def O_X6_readComma (K : gK) (a : Nat) (a_letters : Nat) (s_a_numberPlace : Int32) (s_a_isLawTold : Int32) (s_a_length : Int32) (f_a_letters : Nat → Int32) (o : Int32 × Int32 × Int32 × Int32) : Option Value → va_W → Prop := fun r w => r = some (.int o.1) ∧ w = C_X6_readComma K a a_letters s_a_length o.2.1 o.2.2.1 o.2.2.2 s_a_numberPlace s_a_isLawTold f_a_letters
noncomputable def B_X6_readComma_41 (N : Nat) (s_a_length : Int32) (f_a_letters : Nat → Int32) (p1 : Int32)  (s_a_faultPlace : Int32) (s_a_fault : Int32) (s_a_place : Int32) (x2 : Int32) : Option (Int32 × Int32 × Int32 × Int32) := if s_a_fault = 0 then nm (s_a_place + (1 : Int32)) (fun v3 => if x2 = (44 : Int32) then some ((1 : Int32), s_a_faultPlace, s_a_fault, v3) else some ((0 : Int32), s_a_faultPlace, s_a_fault, v3)) else some ((0 : Int32), s_a_faultPlace, s_a_fault, s_a_place)
set_option maxHeartbeats 4000000 in
theorem G_X6_readComma_41 {K : gK} {X : gX} {wi : va_W} {o : Int32 × Int32 × Int32 × Int32} (N : Nat) (s_a_length : Int32) (f_a_letters : Nat → Int32) (p1 : Int32) (a : Nat) (a_letters : Nat) (s_a_numberPlace : Int32) (s_a_isLawTold : Int32) (hR : gR K X M_X6_readComma wi (O_X6_readComma K a a_letters s_a_numberPlace s_a_isLawTold s_a_length f_a_letters o))  (s_a_faultPlace : Int32) (s_a_fault : Int32) (s_a_place : Int32) (x2 : Int32) (hF : B_X6_readComma_41 N s_a_length f_a_letters p1  s_a_faultPlace s_a_fault s_a_place x2 = some o) : Go K X M_X6_readComma 0 0 (C_X6_readComma K a a_letters s_a_length s_a_faultPlace s_a_fault s_a_place s_a_numberPlace s_a_isLawTold f_a_letters) [(0, .ref a), (2, .int x2)] 41 [] := by
  unfold B_X6_readComma_41 at hF
  refine go_aload_n 0 dX6_readComma_41 rfl rfl ?_
  refine go_get 6 0 3 hcX6 inX6 (Nat.le_of_ble_eq_true rfl) wd96 rfl rfl dX6_readComma_42 ?_
  refine go_if_eq 50 hF dX6_readComma_45 (by decide) (fun hF => ?_) (fun hF => ?_)
  · refine go_aload_n 0 dX6_readComma_50 rfl rfl ?_
    refine go_dup dX6_readComma_51 rfl ?_
    refine go_get 6 0 4 hcX6 inX6 (Nat.le_of_ble_eq_true rfl) wd97 rfl rfl dX6_readComma_52 ?_
    refine go_iconst (v := (1 : Int32)) dX6_readComma_55 (by decide) ?_
    refine go_iadd dX6_readComma_56 ?_
    refine go_nmi hF (fun v3 hF => ?_)
    refine go_put 6 0 4 (C_X6_readComma K a a_letters s_a_length s_a_faultPlace s_a_fault v3 s_a_numberPlace s_a_isLawTold f_a_letters) hcX6 inX6 tyX6_ok nmX6 (Nat.le_of_ble_eq_true rfl) wd97 rfl rfl rfl rfl (Nat.le_of_ble_eq_true rfl) rfl dX6_readComma_57 ?_
    refine go_iload_n 1 dX6_readComma_60 rfl rfl ?_
    refine go_bipush (v := (44 : Int32)) dX6_readComma_61 (by decide) ?_
    refine go_icmp_ne 70 hF dX6_readComma_63 (by decide) (fun hF => ?_) (fun hF => ?_)
    · refine go_iconst (v := (0 : Int32)) dX6_readComma_70 (by decide) ?_
      exact go_iret (Om := O_X6_readComma K a a_letters s_a_numberPlace s_a_isLawTold s_a_length f_a_letters) hR hF dX6_readComma_71 rfl rfl (Nat.zero_le _) (Nat.zero_le _) ⟨rfl, rfl⟩
    · refine go_iconst (v := (1 : Int32)) dX6_readComma_66 (by decide) ?_
      refine go_goto 71 dX6_readComma_67 (by decide) ?_
      exact go_iret (Om := O_X6_readComma K a a_letters s_a_numberPlace s_a_isLawTold s_a_length f_a_letters) hR hF dX6_readComma_71 rfl rfl (Nat.zero_le _) (Nat.zero_le _) ⟨rfl, rfl⟩
  · refine go_iconst (v := (0 : Int32)) dX6_readComma_48 (by decide) ?_
    exact go_iret (Om := O_X6_readComma K a a_letters s_a_numberPlace s_a_isLawTold s_a_length f_a_letters) hR hF dX6_readComma_49 rfl rfl (Nat.zero_le _) (Nat.zero_le _) ⟨rfl, rfl⟩
noncomputable def B_X6_readComma_32 (N : Nat) (s_a_length : Int32) (f_a_letters : Nat → Int32) (p1 : Int32)  (s_a_faultPlace : Int32) (s_a_fault : Int32) (s_a_place : Int32) (x2 : Int32) : Option (Int32 × Int32 × Int32 × Int32) := bnd (F_X6_fail s_a_faultPlace s_a_fault (1 : Int32) s_a_place) (fun o4 => B_X6_readComma_41 N s_a_length f_a_letters p1 o4.1 o4.2 s_a_place x2)
set_option maxHeartbeats 4000000 in
theorem G_X6_readComma_32 {K : gK} {X : gX} {wi : va_W} {o : Int32 × Int32 × Int32 × Int32} (N : Nat) (s_a_length : Int32) (f_a_letters : Nat → Int32) (p1 : Int32) (a : Nat) (a_letters : Nat) (s_a_numberPlace : Int32) (s_a_isLawTold : Int32) (hR : gR K X M_X6_readComma wi (O_X6_readComma K a a_letters s_a_numberPlace s_a_isLawTold s_a_length f_a_letters o))  (s_a_faultPlace : Int32) (s_a_fault : Int32) (s_a_place : Int32) (x2 : Int32) (hF : B_X6_readComma_32 N s_a_length f_a_letters p1  s_a_faultPlace s_a_fault s_a_place x2 = some o) : Go K X M_X6_readComma 0 0 (C_X6_readComma K a a_letters s_a_length s_a_faultPlace s_a_fault s_a_place s_a_numberPlace s_a_isLawTold f_a_letters) [(0, .ref a), (2, .int x2)] 32 [] := by
  unfold B_X6_readComma_32 at hF
  refine go_aload_n 0 dX6_readComma_32 rfl rfl ?_
  refine go_iconst (v := (1 : Int32)) dX6_readComma_33 (by decide) ?_
  refine go_aload_n 0 dX6_readComma_34 rfl rfl ?_
  refine go_get 6 0 4 hcX6 inX6 (Nat.le_of_ble_eq_true rfl) wd97 rfl rfl dX6_readComma_35 ?_
  obtain ⟨o4, ho4, hF⟩ := bnd_elim hF
  refine go_callV (As := [.int (1 : Int32), .int s_a_place]) (rest := []) (wr := [(a_letters, .inl (kI K, 240, .inl f_a_letters))]) 6 0 hcX6 rfl (kn_X6_fail K a a_letters s_a_length s_a_place s_a_numberPlace s_a_isLawTold s_a_faultPlace s_a_fault (1 : Int32) s_a_place ho4) ok_X6_fail ⟨Nat.le_of_ble_eq_true rfl, Nat.le_of_ble_eq_true rfl⟩ ⟨Nat.le_of_ble_eq_true rfl, Nat.le_of_ble_eq_true rfl⟩ wd443 rfl rfl (Nat.le_of_ble_eq_true rfl) dX6_readComma_38 [0] [1] rfl rfl rfl rfl (by decide) (fun r wo hO => ?_)
  obtain ⟨rfl, rfl⟩ := hO
  refine go_ws (ws' := C_X6_readComma K a a_letters s_a_length o4.1 o4.2 s_a_place s_a_numberPlace s_a_isLawTold f_a_letters) [1, 0] rfl rfl ?_
  refine go_eq (pc' := 41) (st' := []) rfl rfl ?_
  exact G_X6_readComma_41 N s_a_length f_a_letters p1 a a_letters s_a_numberPlace s_a_isLawTold hR  o4.1 o4.2 s_a_place x2 hF
noncomputable def F_X6_readComma (N : Nat) (s_a_length : Int32) (s_a_faultPlace : Int32) (s_a_fault : Int32) (s_a_place : Int32) (f_a_letters : Nat → Int32) (p1 : Int32) : Option (Int32 × Int32 × Int32 × Int32) := bnd (F_X6_skipBlanks N s_a_length s_a_place f_a_letters) (fun o1 => bnd (F_X6_letterHere s_a_length o1 f_a_letters) (fun o2 => if s_a_fault = 0 then if o2 = (59 : Int32) then B_X6_readComma_41 N s_a_length f_a_letters p1 s_a_faultPlace s_a_fault o1 o2 else if p1 = 0 then B_X6_readComma_32 N s_a_length f_a_letters p1 s_a_faultPlace s_a_fault o1 o2 else if o2 = (44 : Int32) then B_X6_readComma_41 N s_a_length f_a_letters p1 s_a_faultPlace s_a_fault o1 o2 else B_X6_readComma_32 N s_a_length f_a_letters p1 s_a_faultPlace s_a_fault o1 o2 else B_X6_readComma_41 N s_a_length f_a_letters p1 s_a_faultPlace s_a_fault o1 o2))
set_option maxHeartbeats 4000000 in
theorem kn_X6_readComma (K : gK) (N : Nat) (a : Nat) (a_letters : Nat) (s_a_numberPlace : Int32) (s_a_isLawTold : Int32) (s_a_length : Int32) (s_a_faultPlace : Int32) (s_a_fault : Int32) (s_a_place : Int32) (f_a_letters : Nat → Int32) (p1 : Int32) {o : Int32 × Int32 × Int32 × Int32} (hF : F_X6_readComma N s_a_length s_a_faultPlace s_a_fault s_a_place f_a_letters p1 = some o) : Kn K M_X6_readComma [.ref a, .int p1] (C_X6_readComma K a a_letters s_a_length s_a_faultPlace s_a_fault s_a_place s_a_numberPlace s_a_isLawTold f_a_letters) (O_X6_readComma K a a_letters s_a_numberPlace s_a_isLawTold s_a_length f_a_letters o) := by
  refine kn_of (by decide +kernel) (Nat.le_of_ble_eq_true rfl) (fun X hR => ?_)
  refine go_loc (L' := [(0, .ref a), (1, .int p1)]) [0, 1] rfl ?_
  unfold F_X6_readComma at hF
  refine go_aload_n 0 dX6_readComma_0 rfl rfl ?_
  obtain ⟨o1, ho1, hF⟩ := bnd_elim hF
  refine go_callV (As := []) (rest := []) (wr := []) 6 0 hcX6 rfl (kn_X6_skipBlanks K N a a_letters s_a_faultPlace s_a_fault s_a_numberPlace s_a_isLawTold s_a_length s_a_place f_a_letters ho1) ok_X6_skipBlanks ⟨Nat.le_of_ble_eq_true rfl, Nat.le_of_ble_eq_true rfl⟩ ⟨Nat.le_of_ble_eq_true rfl, Nat.le_of_ble_eq_true rfl⟩ wd424 rfl rfl (Nat.le_of_ble_eq_true rfl) dX6_readComma_1 [0, 1] [] rfl rfl rfl rfl (by decide) (fun r wo hO => ?_)
  obtain ⟨rfl, rfl⟩ := hO
  refine go_ws (ws' := C_X6_readComma K a a_letters s_a_length s_a_faultPlace s_a_fault o1 s_a_numberPlace s_a_isLawTold f_a_letters) [0, 1] rfl rfl ?_
  refine go_eq (pc' := 4) (st' := []) rfl rfl ?_
  refine go_aload_n 0 dX6_readComma_4 rfl rfl ?_
  obtain ⟨o2, ho2, hF⟩ := bnd_elim hF
  refine go_callV (As := []) (rest := []) (wr := []) 6 0 hcX6 rfl (kn_X6_letterHere K a a_letters s_a_faultPlace s_a_fault s_a_numberPlace s_a_isLawTold s_a_length o1 f_a_letters ho2) ok_X6_letterHere ⟨Nat.le_of_ble_eq_true rfl, Nat.le_of_ble_eq_true rfl⟩ ⟨Nat.le_of_ble_eq_true rfl, Nat.le_of_ble_eq_true rfl⟩ wd435 rfl rfl (Nat.le_of_ble_eq_true rfl) dX6_readComma_5 [0, 1] [] rfl rfl rfl rfl (by decide) (fun r wo hO => ?_)
  obtain ⟨rfl, rfl⟩ := hO
  refine go_ws (ws' := C_X6_readComma K a a_letters s_a_length s_a_faultPlace s_a_fault o1 s_a_numberPlace s_a_isLawTold f_a_letters) [0, 1] rfl rfl ?_
  refine go_eq (pc' := 8) (st' := [.int o2]) rfl rfl ?_
  refine go_istore_n [(2, .int o2), (0, .ref a), (1, .int p1)] dX6_readComma_8 rfl (Nat.le_of_ble_eq_true rfl) rfl ?_
  refine go_aload_n 1 dX6_readComma_9 rfl rfl ?_
  refine go_get 6 0 3 hcX6 inX6 (Nat.le_of_ble_eq_true rfl) wd96 rfl rfl dX6_readComma_10 ?_
  refine go_if_ne 41 hF dX6_readComma_13 (by decide) (fun hF => ?_) (fun hF => ?_)
  · refine go_loc (L' := [(0, .ref a), (2, .int o2)]) [1, 0] rfl ?_
    exact G_X6_readComma_41 N s_a_length f_a_letters p1 a a_letters s_a_numberPlace s_a_isLawTold hR  s_a_faultPlace s_a_fault o1 o2 hF
  · refine go_iload_n 0 dX6_readComma_16 rfl rfl ?_
    refine go_bipush (v := (59 : Int32)) dX6_readComma_17 (by decide) ?_
    refine go_icmp_eq 41 hF dX6_readComma_19 (by decide) (fun hF => ?_) (fun hF => ?_)
    · refine go_loc (L' := [(0, .ref a), (2, .int o2)]) [1, 0] rfl ?_
      exact G_X6_readComma_41 N s_a_length f_a_letters p1 a a_letters s_a_numberPlace s_a_isLawTold hR  s_a_faultPlace s_a_fault o1 o2 hF
    · refine go_iload_n 2 dX6_readComma_22 rfl rfl ?_
      refine go_if_eq 32 hF dX6_readComma_23 (by decide) (fun hF => ?_) (fun hF => ?_)
      · refine go_loc (L' := [(0, .ref a), (2, .int o2)]) [1, 0] rfl ?_
        exact G_X6_readComma_32 N s_a_length f_a_letters p1 a a_letters s_a_numberPlace s_a_isLawTold hR  s_a_faultPlace s_a_fault o1 o2 hF
      · refine go_iload_n 0 dX6_readComma_26 rfl rfl ?_
        refine go_bipush (v := (44 : Int32)) dX6_readComma_27 (by decide) ?_
        refine go_icmp_eq 41 hF dX6_readComma_29 (by decide) (fun hF => ?_) (fun hF => ?_)
        · refine go_loc (L' := [(0, .ref a), (2, .int o2)]) [1, 0] rfl ?_
          exact G_X6_readComma_41 N s_a_length f_a_letters p1 a a_letters s_a_numberPlace s_a_isLawTold hR  s_a_faultPlace s_a_fault o1 o2 hF
        · refine go_loc (L' := [(0, .ref a), (2, .int o2)]) [1, 0] rfl ?_
          exact G_X6_readComma_32 N s_a_length f_a_letters p1 a a_letters s_a_numberPlace s_a_isLawTold hR  s_a_faultPlace s_a_fault o1 o2 hF
theorem ok_X6_readComma : gOkV M_X6_readComma 1 := ⟨⟨wd461, wd65, by decide +kernel, by decide +kernel, by decide +kernel⟩, wd460, wd7⟩
def C_X6_readCars (K : gK) (a : Nat) (a_letters : Nat) (b1 : Nat) (b1_berths : Nat) (b1_pitch : Nat) (b1_loud : Nat) (b1_depth : Nat) (b1_from : Nat) (b1_to : Nat) (b1_mate : Nat) (s_a_length : Int32) (s_a_faultPlace : Int32) (s_a_fault : Int32) (s_a_place : Int32) (s_a_numberPlace : Int32) (s_a_isLawTold : Int32) (f_a_letters : Nat → Int32) (s_b1_cars : Int32) (s_b1_sleepers : Int32) (s_b1_couples : Int32) (s_b1_law : Int32) (f_b1_berths : Nat → Int32) : va_W := [(a, .inr (6, [.ref a_letters, .int s_a_length, .int s_a_faultPlace, .int s_a_fault, .int s_a_place, .int s_a_numberPlace, .int s_a_isLawTold])), (a_letters, .inl (kI K, 240, .inl f_a_letters)), (b1, .inr (7, [.int s_b1_cars, .int s_b1_sleepers, .int s_b1_couples, .int s_b1_law, .ref b1_berths, .ref b1_pitch, .ref b1_loud, .ref b1_depth, .ref b1_from, .ref b1_to, .ref b1_mate])), (b1_berths, .inl (kI K, 4, .inl f_b1_berths))]
def M_X6_readCars : gM := (yX6_readCars, cX6_readCars, 4, none, { frames := 3, cells := 0, slots := 0, locals := 65 })
def O_X6_readCars (K : gK) (a : Nat) (a_letters : Nat) (b1 : Nat) (b1_berths : Nat) (b1_pitch : Nat) (b1_loud : Nat) (b1_depth : Nat) (b1_from : Nat) (b1_to : Nat) (b1_mate : Nat) (s_a_isLawTold : Int32) (s_b1_sleepers : Int32) (s_b1_couples : Int32) (s_b1_law : Int32) (s_a_length : Int32) (f_a_letters : Nat → Int32) (o : Int32 × Int32 × Int32 × Int32 × Int32 × (Nat → Int32)) : Option Value → va_W → Prop := fun r w => r = none ∧ w = C_X6_readCars K a a_letters b1 b1_berths b1_pitch b1_loud b1_depth b1_from b1_to b1_mate s_a_length o.1 o.2.1 o.2.2.1 o.2.2.2.1 s_a_isLawTold f_a_letters o.2.2.2.2.1 s_b1_sleepers s_b1_couples s_b1_law o.2.2.2.2.2
noncomputable def B_X6_readCars_49 (N : Nat) (s_a_length : Int32) (f_a_letters : Nat → Int32) (k4 : Int32 → Int32 → Int32 → Int32 → Int32 → (Nat → Int32) → Int32 → Int32 → Option (Int32 × Int32 × Int32 × Int32 × Int32 × (Nat → Int32))) (s_a_faultPlace : Int32) (s_a_fault : Int32) (s_a_place : Int32) (s_a_numberPlace : Int32) (s_b1_cars : Int32) (f_b1_berths : Nat → Int32) (x3 : Int32) (z1 : Int32) : Option (Int32 × Int32 × Int32 × Int32 × Int32 × (Nat → Int32)) := bnd (F_X6_readComma N s_a_length s_a_faultPlace s_a_fault s_a_place f_a_letters z1) (fun o4 => nm (x3 + (1 : Int32)) (fun v5 => k4 o4.2.1 o4.2.2.1 o4.2.2.2 s_a_numberPlace s_b1_cars f_b1_berths o4.1 v5))
set_option maxHeartbeats 4000000 in
theorem G_X6_readCars_49 {K : gK} {X : gX} {wi : va_W} {o : Int32 × Int32 × Int32 × Int32 × Int32 × (Nat → Int32)} (N : Nat) (s_a_length : Int32) (f_a_letters : Nat → Int32) (a : Nat) (a_letters : Nat) (b1 : Nat) (b1_berths : Nat) (b1_pitch : Nat) (b1_loud : Nat) (b1_depth : Nat) (b1_from : Nat) (b1_to : Nat) (b1_mate : Nat) (s_a_isLawTold : Int32) (s_b1_sleepers : Int32) (s_b1_couples : Int32) (s_b1_law : Int32) (hR : gR K X M_X6_readCars wi (O_X6_readCars K a a_letters b1 b1_berths b1_pitch b1_loud b1_depth b1_from b1_to b1_mate s_a_isLawTold s_b1_sleepers s_b1_couples s_b1_law s_a_length f_a_letters o)) (k4 : Int32 → Int32 → Int32 → Int32 → Int32 → (Nat → Int32) → Int32 → Int32 → Option (Int32 × Int32 × Int32 × Int32 × Int32 × (Nat → Int32))) (hk4 : ∀ (s_a_faultPlace : Int32) (s_a_fault : Int32) (s_a_place : Int32) (s_a_numberPlace : Int32) (s_b1_cars : Int32) (f_b1_berths : Nat → Int32) (x2 : Int32) (x3 : Int32), k4 s_a_faultPlace s_a_fault s_a_place s_a_numberPlace s_b1_cars f_b1_berths x2 x3 = some o → Go K X M_X6_readCars 0 0 (C_X6_readCars K a a_letters b1 b1_berths b1_pitch b1_loud b1_depth b1_from b1_to b1_mate s_a_length s_a_faultPlace s_a_fault s_a_place s_a_numberPlace s_a_isLawTold f_a_letters s_b1_cars s_b1_sleepers s_b1_couples s_b1_law f_b1_berths) [(0, .ref a), (1, .ref b1), (2, .int x2), (3, .int x3)] 4 []) (s_a_faultPlace : Int32) (s_a_fault : Int32) (s_a_place : Int32) (s_a_numberPlace : Int32) (s_b1_cars : Int32) (f_b1_berths : Nat → Int32) (x3 : Int32) (z1 : Int32) (hF : B_X6_readCars_49 N s_a_length f_a_letters k4 s_a_faultPlace s_a_fault s_a_place s_a_numberPlace s_b1_cars f_b1_berths x3 z1 = some o) : Go K X M_X6_readCars 0 0 (C_X6_readCars K a a_letters b1 b1_berths b1_pitch b1_loud b1_depth b1_from b1_to b1_mate s_a_length s_a_faultPlace s_a_fault s_a_place s_a_numberPlace s_a_isLawTold f_a_letters s_b1_cars s_b1_sleepers s_b1_couples s_b1_law f_b1_berths) [(0, .ref a), (1, .ref b1), (3, .int x3)] 49 [.int z1, .ref a] := by
  unfold B_X6_readCars_49 at hF
  obtain ⟨o4, ho4, hF⟩ := bnd_elim hF
  refine go_callV (As := [.int z1]) (rest := []) (wr := [(b1, .inr (7, [.int s_b1_cars, .int s_b1_sleepers, .int s_b1_couples, .int s_b1_law, .ref b1_berths, .ref b1_pitch, .ref b1_loud, .ref b1_depth, .ref b1_from, .ref b1_to, .ref b1_mate])), (b1_berths, .inl (kI K, 4, .inl f_b1_berths))]) 6 0 hcX6 rfl (kn_X6_readComma K N a a_letters s_a_numberPlace s_a_isLawTold s_a_length s_a_faultPlace s_a_fault s_a_place f_a_letters z1 ho4) ok_X6_readComma ⟨Nat.le_of_ble_eq_true rfl, Nat.le_of_ble_eq_true rfl⟩ ⟨Nat.le_of_ble_eq_true rfl, Nat.le_of_ble_eq_true rfl⟩ wd458 rfl rfl (Nat.le_of_ble_eq_true rfl) dX6_readCars_49 [0, 1] [2, 3] rfl rfl rfl rfl (by decide) (fun r wo hO => ?_)
  obtain ⟨rfl, rfl⟩ := hO
  refine go_ws (ws' := C_X6_readCars K a a_letters b1 b1_berths b1_pitch b1_loud b1_depth b1_from b1_to b1_mate s_a_length o4.2.1 o4.2.2.1 o4.2.2.2 s_a_numberPlace s_a_isLawTold f_a_letters s_b1_cars s_b1_sleepers s_b1_couples s_b1_law f_b1_berths) [2, 3, 0, 1] rfl rfl ?_
  refine go_eq (pc' := 52) (st' := [.int o4.1]) rfl rfl ?_
  refine go_istore_n [(2, .int o4.1), (0, .ref a), (1, .ref b1), (3, .int x3)] dX6_readCars_52 rfl (Nat.le_of_ble_eq_true rfl) rfl ?_
  refine go_iinc 3 (fun y => [(3, .int y), (2, .int o4.1), (0, .ref a), (1, .ref b1)]) hF dX6_readCars_53 rfl rfl (Nat.le_of_ble_eq_true rfl) (fun _ => rfl) (fun v5 hF => ?_)
  refine go_goto 4 dX6_readCars_56 (by decide) ?_
  refine go_loc (L' := [(0, .ref a), (1, .ref b1), (2, .int o4.1), (3, .int v5)]) [2, 3, 1, 0] rfl ?_
  exact hk4 o4.2.1 o4.2.2.1 o4.2.2.2 s_a_numberPlace s_b1_cars f_b1_berths o4.1 v5 hF
noncomputable def B_X6_readCars_4 (N : Nat) (s_a_length : Int32) (f_a_letters : Nat → Int32) (k4 : Int32 → Int32 → Int32 → Int32 → Int32 → (Nat → Int32) → Int32 → Int32 → Option (Int32 × Int32 × Int32 × Int32 × Int32 × (Nat → Int32))) (s_a_faultPlace : Int32) (s_a_fault : Int32) (s_a_place : Int32) (s_a_numberPlace : Int32) (s_b1_cars : Int32) (f_b1_berths : Nat → Int32) (x2 : Int32) (x3 : Int32) : Option (Int32 × Int32 × Int32 × Int32 × Int32 × (Nat → Int32)) := if (4 : Int32) ≤ x3 then some (s_a_faultPlace, s_a_fault, s_a_place, s_a_numberPlace, s_b1_cars, f_b1_berths) else if x2 = 0 then some (s_a_faultPlace, s_a_fault, s_a_place, s_a_numberPlace, s_b1_cars, f_b1_berths) else bnd (F_X6_readNumber N s_a_length s_a_faultPlace s_a_fault s_a_place s_a_numberPlace f_a_letters (1 : Int32) (8 : Int32)) (fun o1 => bnd (F_X8_lay 4 f_b1_berths x3 o1.1) (fun o2 => nm (x3 + (1 : Int32)) (fun v3 => if (4 : Int32) ≤ v3 then B_X6_readCars_49 N s_a_length f_a_letters k4 o1.2.1 o1.2.2.1 o1.2.2.2.1 o1.2.2.2.2 v3 o2 x3 (0 : Int32) else B_X6_readCars_49 N s_a_length f_a_letters k4 o1.2.1 o1.2.2.1 o1.2.2.2.1 o1.2.2.2.2 v3 o2 x3 (1 : Int32))))
noncomputable def F_X6_readCars_4 (N : Nat) (s_a_length : Int32) (f_a_letters : Nat → Int32)  : Nat → Int32 → Int32 → Int32 → Int32 → Int32 → (Nat → Int32) → Int32 → Int32 → Option (Int32 × Int32 × Int32 × Int32 × Int32 × (Nat → Int32)) := lq8 (fun self => B_X6_readCars_4 N s_a_length f_a_letters  self)
set_option maxHeartbeats 4000000 in
theorem G_X6_readCars_4 {K : gK} {X : gX} {wi : va_W} {o : Int32 × Int32 × Int32 × Int32 × Int32 × (Nat → Int32)} (N : Nat) (s_a_length : Int32) (f_a_letters : Nat → Int32) (a : Nat) (a_letters : Nat) (b1 : Nat) (b1_berths : Nat) (b1_pitch : Nat) (b1_loud : Nat) (b1_depth : Nat) (b1_from : Nat) (b1_to : Nat) (b1_mate : Nat) (s_a_isLawTold : Int32) (s_b1_sleepers : Int32) (s_b1_couples : Int32) (s_b1_law : Int32) (hR : gR K X M_X6_readCars wi (O_X6_readCars K a a_letters b1 b1_berths b1_pitch b1_loud b1_depth b1_from b1_to b1_mate s_a_isLawTold s_b1_sleepers s_b1_couples s_b1_law s_a_length f_a_letters o)) (k4 : Int32 → Int32 → Int32 → Int32 → Int32 → (Nat → Int32) → Int32 → Int32 → Option (Int32 × Int32 × Int32 × Int32 × Int32 × (Nat → Int32))) (hk4 : ∀ (s_a_faultPlace : Int32) (s_a_fault : Int32) (s_a_place : Int32) (s_a_numberPlace : Int32) (s_b1_cars : Int32) (f_b1_berths : Nat → Int32) (x2 : Int32) (x3 : Int32), k4 s_a_faultPlace s_a_fault s_a_place s_a_numberPlace s_b1_cars f_b1_berths x2 x3 = some o → Go K X M_X6_readCars 0 0 (C_X6_readCars K a a_letters b1 b1_berths b1_pitch b1_loud b1_depth b1_from b1_to b1_mate s_a_length s_a_faultPlace s_a_fault s_a_place s_a_numberPlace s_a_isLawTold f_a_letters s_b1_cars s_b1_sleepers s_b1_couples s_b1_law f_b1_berths) [(0, .ref a), (1, .ref b1), (2, .int x2), (3, .int x3)] 4 []) (s_a_faultPlace : Int32) (s_a_fault : Int32) (s_a_place : Int32) (s_a_numberPlace : Int32) (s_b1_cars : Int32) (f_b1_berths : Nat → Int32) (x2 : Int32) (x3 : Int32) (hF : B_X6_readCars_4 N s_a_length f_a_letters k4 s_a_faultPlace s_a_fault s_a_place s_a_numberPlace s_b1_cars f_b1_berths x2 x3 = some o) : Go K X M_X6_readCars 0 0 (C_X6_readCars K a a_letters b1 b1_berths b1_pitch b1_loud b1_depth b1_from b1_to b1_mate s_a_length s_a_faultPlace s_a_fault s_a_place s_a_numberPlace s_a_isLawTold f_a_letters s_b1_cars s_b1_sleepers s_b1_couples s_b1_law f_b1_berths) [(0, .ref a), (1, .ref b1), (2, .int x2), (3, .int x3)] 4 [] := by
  unfold B_X6_readCars_4 at hF
  refine go_iload_n 3 dX6_readCars_4 rfl rfl ?_
  refine go_iconst (v := (4 : Int32)) dX6_readCars_5 (by decide) ?_
  refine go_icmp_ge 59 hF dX6_readCars_6 (by decide) (fun hF => ?_) (fun hF => ?_)
  · exact go_vret (Om := O_X6_readCars K a a_letters b1 b1_berths b1_pitch b1_loud b1_depth b1_from b1_to b1_mate s_a_isLawTold s_b1_sleepers s_b1_couples s_b1_law s_a_length f_a_letters) hR hF dX6_readCars_59 rfl (Nat.zero_le _) (Nat.zero_le _) ⟨rfl, rfl⟩
  · refine go_iload_n 2 dX6_readCars_9 rfl rfl ?_
    refine go_if_eq 59 hF dX6_readCars_10 (by decide) (fun hF => ?_) (fun hF => ?_)
    · exact go_vret (Om := O_X6_readCars K a a_letters b1 b1_berths b1_pitch b1_loud b1_depth b1_from b1_to b1_mate s_a_isLawTold s_b1_sleepers s_b1_couples s_b1_law s_a_length f_a_letters) hR hF dX6_readCars_59 rfl (Nat.zero_le _) (Nat.zero_le _) ⟨rfl, rfl⟩
    · refine go_aload_n 1 dX6_readCars_13 rfl rfl ?_
      refine go_get 7 2 4 hcX7 inX7 (Nat.le_of_ble_eq_true rfl) wd148 rfl rfl dX6_readCars_14 ?_
      refine go_iload_n 3 dX6_readCars_17 rfl rfl ?_
      refine go_aload_n 0 dX6_readCars_18 rfl rfl ?_
      refine go_iconst (v := (1 : Int32)) dX6_readCars_19 (by decide) ?_
      refine go_bipush (v := (8 : Int32)) dX6_readCars_20 (by decide) ?_
      obtain ⟨o1, ho1, hF⟩ := bnd_elim hF
      refine go_callV (As := [.int (1 : Int32), .int (8 : Int32)]) (rest := [.int x3, .ref b1_berths]) (wr := [(b1, .inr (7, [.int s_b1_cars, .int s_b1_sleepers, .int s_b1_couples, .int s_b1_law, .ref b1_berths, .ref b1_pitch, .ref b1_loud, .ref b1_depth, .ref b1_from, .ref b1_to, .ref b1_mate])), (b1_berths, .inl (kI K, 4, .inl f_b1_berths))]) 6 0 hcX6 rfl (kn_X6_readNumber K N a a_letters s_a_isLawTold s_a_length s_a_faultPlace s_a_fault s_a_place s_a_numberPlace f_a_letters (1 : Int32) (8 : Int32) ho1) ok_X6_readNumber ⟨Nat.le_of_ble_eq_true rfl, Nat.le_of_ble_eq_true rfl⟩ ⟨Nat.le_of_ble_eq_true rfl, Nat.le_of_ble_eq_true rfl⟩ wd451 rfl rfl (Nat.le_of_ble_eq_true rfl) dX6_readCars_22 [0, 1] [2, 3] rfl rfl rfl rfl (by decide) (fun r wo hO => ?_)
      obtain ⟨rfl, rfl⟩ := hO
      refine go_ws (ws' := C_X6_readCars K a a_letters b1 b1_berths b1_pitch b1_loud b1_depth b1_from b1_to b1_mate s_a_length o1.2.1 o1.2.2.1 o1.2.2.2.1 o1.2.2.2.2 s_a_isLawTold f_a_letters s_b1_cars s_b1_sleepers s_b1_couples s_b1_law f_b1_berths) [2, 3, 0, 1] rfl rfl ?_
      refine go_eq (pc' := 25) (st' := [.int o1.1, .int x3, .ref b1_berths]) rfl rfl ?_
      obtain ⟨o2, ho2, hF⟩ := bnd_elim hF
      refine go_callSN (As := [.ref b1_berths, .int x3, .int o1.1]) (rest := []) (wr := [(a, .inr (6, [.ref a_letters, .int s_a_length, .int o1.2.1, .int o1.2.2.1, .int o1.2.2.2.1, .int o1.2.2.2.2, .int s_a_isLawTold])), (a_letters, .inl (kI K, 240, .inl f_a_letters)), (b1, .inr (7, [.int s_b1_cars, .int s_b1_sleepers, .int s_b1_couples, .int s_b1_law, .ref b1_berths, .ref b1_pitch, .ref b1_loud, .ref b1_depth, .ref b1_from, .ref b1_to, .ref b1_mate]))]) (kn_X8_lay K b1_berths 4 f_b1_berths x3 o1.1 ho2) ok_X8_lay ⟨Nat.le_of_ble_eq_true rfl, Nat.le_of_ble_eq_true rfl⟩ ⟨Nat.le_of_ble_eq_true rfl, Nat.le_of_ble_eq_true rfl⟩ ns6 rfl rfl (Nat.le_of_ble_eq_true rfl) dX6_readCars_25 [3] [0, 1, 2] rfl rfl rfl rfl (by decide) (fun r wo hO => ?_)
      obtain ⟨rfl, rfl⟩ := hO
      refine go_ws (ws' := C_X6_readCars K a a_letters b1 b1_berths b1_pitch b1_loud b1_depth b1_from b1_to b1_mate s_a_length o1.2.1 o1.2.2.1 o1.2.2.2.1 o1.2.2.2.2 s_a_isLawTold f_a_letters s_b1_cars s_b1_sleepers s_b1_couples s_b1_law o2) [0, 1, 2, 3] rfl rfl ?_
      refine go_eq (pc' := 28) (st' := []) rfl rfl ?_
      refine go_aload_n 1 dX6_readCars_28 rfl rfl ?_
      refine go_iload_n 3 dX6_readCars_29 rfl rfl ?_
      refine go_iconst (v := (1 : Int32)) dX6_readCars_30 (by decide) ?_
      refine go_iadd dX6_readCars_31 ?_
      refine go_nmi hF (fun v3 hF => ?_)
      refine go_put 7 2 0 (C_X6_readCars K a a_letters b1 b1_berths b1_pitch b1_loud b1_depth b1_from b1_to b1_mate s_a_length o1.2.1 o1.2.2.1 o1.2.2.2.1 o1.2.2.2.2 s_a_isLawTold f_a_letters v3 s_b1_sleepers s_b1_couples s_b1_law o2) hcX7 inX7 tyX7_ok nmX7 (Nat.le_of_ble_eq_true rfl) wd133 rfl rfl rfl rfl (Nat.le_of_ble_eq_true rfl) rfl dX6_readCars_32 ?_
      refine go_aload_n 0 dX6_readCars_35 rfl rfl ?_
      refine go_aload_n 1 dX6_readCars_36 rfl rfl ?_
      refine go_get 7 2 0 hcX7 inX7 (Nat.le_of_ble_eq_true rfl) wd133 rfl rfl dX6_readCars_37 ?_
      refine go_iconst (v := (4 : Int32)) dX6_readCars_40 (by decide) ?_
      refine go_icmp_ge 48 hF dX6_readCars_41 (by decide) (fun hF => ?_) (fun hF => ?_)
      · refine go_iconst (v := (0 : Int32)) dX6_readCars_48 (by decide) ?_
        refine go_loc (L' := [(0, .ref a), (1, .ref b1), (3, .int x3)]) [0, 1, 3] rfl ?_
        exact G_X6_readCars_49 N s_a_length f_a_letters a a_letters b1 b1_berths b1_pitch b1_loud b1_depth b1_from b1_to b1_mate s_a_isLawTold s_b1_sleepers s_b1_couples s_b1_law hR k4 hk4 o1.2.1 o1.2.2.1 o1.2.2.2.1 o1.2.2.2.2 v3 o2 x3 (0 : Int32) hF
      · refine go_iconst (v := (1 : Int32)) dX6_readCars_44 (by decide) ?_
        refine go_goto 49 dX6_readCars_45 (by decide) ?_
        refine go_loc (L' := [(0, .ref a), (1, .ref b1), (3, .int x3)]) [0, 1, 3] rfl ?_
        exact G_X6_readCars_49 N s_a_length f_a_letters a a_letters b1 b1_berths b1_pitch b1_loud b1_depth b1_from b1_to b1_mate s_a_isLawTold s_b1_sleepers s_b1_couples s_b1_law hR k4 hk4 o1.2.1 o1.2.2.1 o1.2.2.2.1 o1.2.2.2.2 v3 o2 x3 (1 : Int32) hF
theorem GL_X6_readCars_4 {K : gK} {X : gX} {wi : va_W} {o : Int32 × Int32 × Int32 × Int32 × Int32 × (Nat → Int32)} (N : Nat) (s_a_length : Int32) (f_a_letters : Nat → Int32) (a : Nat) (a_letters : Nat) (b1 : Nat) (b1_berths : Nat) (b1_pitch : Nat) (b1_loud : Nat) (b1_depth : Nat) (b1_from : Nat) (b1_to : Nat) (b1_mate : Nat) (s_a_isLawTold : Int32) (s_b1_sleepers : Int32) (s_b1_couples : Int32) (s_b1_law : Int32) (hR : gR K X M_X6_readCars wi (O_X6_readCars K a a_letters b1 b1_berths b1_pitch b1_loud b1_depth b1_from b1_to b1_mate s_a_isLawTold s_b1_sleepers s_b1_couples s_b1_law s_a_length f_a_letters o))  : ∀ (fuel : Nat) (s_a_faultPlace : Int32) (s_a_fault : Int32) (s_a_place : Int32) (s_a_numberPlace : Int32) (s_b1_cars : Int32) (f_b1_berths : Nat → Int32) (x2 : Int32) (x3 : Int32), F_X6_readCars_4 N s_a_length f_a_letters  fuel s_a_faultPlace s_a_fault s_a_place s_a_numberPlace s_b1_cars f_b1_berths x2 x3 = some o → Go K X M_X6_readCars 0 0 (C_X6_readCars K a a_letters b1 b1_berths b1_pitch b1_loud b1_depth b1_from b1_to b1_mate s_a_length s_a_faultPlace s_a_fault s_a_place s_a_numberPlace s_a_isLawTold f_a_letters s_b1_cars s_b1_sleepers s_b1_couples s_b1_law f_b1_berths) [(0, .ref a), (1, .ref b1), (2, .int x2), (3, .int x3)] 4 [] :=
  lq8_elim (fun self hs s_a_faultPlace s_a_fault s_a_place s_a_numberPlace s_b1_cars f_b1_berths x2 x3 hF => G_X6_readCars_4 N s_a_length f_a_letters a a_letters b1 b1_berths b1_pitch b1_loud b1_depth b1_from b1_to b1_mate s_a_isLawTold s_b1_sleepers s_b1_couples s_b1_law hR  self hs s_a_faultPlace s_a_fault s_a_place s_a_numberPlace s_b1_cars f_b1_berths x2 x3 hF)
noncomputable def F_X6_readCars (N : Nat) (s_a_length : Int32) (s_a_faultPlace : Int32) (s_a_fault : Int32) (s_a_place : Int32) (s_a_numberPlace : Int32) (f_a_letters : Nat → Int32) (s_b1_cars : Int32) (f_b1_berths : Nat → Int32) : Option (Int32 × Int32 × Int32 × Int32 × Int32 × (Nat → Int32)) := F_X6_readCars_4 N s_a_length f_a_letters N s_a_faultPlace s_a_fault s_a_place s_a_numberPlace s_b1_cars f_b1_berths (1 : Int32) (0 : Int32)
set_option maxHeartbeats 4000000 in
theorem kn_X6_readCars (K : gK) (N : Nat) (a : Nat) (a_letters : Nat) (b1 : Nat) (b1_berths : Nat) (b1_pitch : Nat) (b1_loud : Nat) (b1_depth : Nat) (b1_from : Nat) (b1_to : Nat) (b1_mate : Nat) (s_a_isLawTold : Int32) (s_b1_sleepers : Int32) (s_b1_couples : Int32) (s_b1_law : Int32) (s_a_length : Int32) (s_a_faultPlace : Int32) (s_a_fault : Int32) (s_a_place : Int32) (s_a_numberPlace : Int32) (f_a_letters : Nat → Int32) (s_b1_cars : Int32) (f_b1_berths : Nat → Int32) {o : Int32 × Int32 × Int32 × Int32 × Int32 × (Nat → Int32)} (hF : F_X6_readCars N s_a_length s_a_faultPlace s_a_fault s_a_place s_a_numberPlace f_a_letters s_b1_cars f_b1_berths = some o) : Kn K M_X6_readCars [.ref a, .ref b1] (C_X6_readCars K a a_letters b1 b1_berths b1_pitch b1_loud b1_depth b1_from b1_to b1_mate s_a_length s_a_faultPlace s_a_fault s_a_place s_a_numberPlace s_a_isLawTold f_a_letters s_b1_cars s_b1_sleepers s_b1_couples s_b1_law f_b1_berths) (O_X6_readCars K a a_letters b1 b1_berths b1_pitch b1_loud b1_depth b1_from b1_to b1_mate s_a_isLawTold s_b1_sleepers s_b1_couples s_b1_law s_a_length f_a_letters o) := by
  refine kn_of (by decide +kernel) (Nat.le_of_ble_eq_true rfl) (fun X hR => ?_)
  refine go_loc (L' := [(0, .ref a), (1, .ref b1)]) [0, 1] rfl ?_
  unfold F_X6_readCars at hF
  refine go_iconst (v := (1 : Int32)) dX6_readCars_0 (by decide) ?_
  refine go_istore_n [(2, .int (1 : Int32)), (0, .ref a), (1, .ref b1)] dX6_readCars_1 rfl (Nat.le_of_ble_eq_true rfl) rfl ?_
  refine go_iconst (v := (0 : Int32)) dX6_readCars_2 (by decide) ?_
  refine go_istore_n [(3, .int (0 : Int32)), (2, .int (1 : Int32)), (0, .ref a), (1, .ref b1)] dX6_readCars_3 rfl (Nat.le_of_ble_eq_true rfl) rfl ?_
  refine go_loc (L' := [(0, .ref a), (1, .ref b1), (2, .int (1 : Int32)), (3, .int (0 : Int32))]) [2, 3, 1, 0] rfl ?_
  exact GL_X6_readCars_4 N s_a_length f_a_letters a a_letters b1 b1_berths b1_pitch b1_loud b1_depth b1_from b1_to b1_mate s_a_isLawTold s_b1_sleepers s_b1_couples s_b1_law hR  N s_a_faultPlace s_a_fault s_a_place s_a_numberPlace s_b1_cars f_b1_berths (1 : Int32) (0 : Int32) hF
theorem ok_X6_readCars : gOkV M_X6_readCars 1 := ⟨⟨wd450, wd65, by decide +kernel, by decide +kernel, by decide +kernel⟩, wd449, wd5⟩
def C_X6_readSleeper (K : gK) (a : Nat) (a_letters : Nat) (b1 : Nat) (b1_pitch : Nat) (b1_loud : Nat) (b1_depth : Nat) (b1_from : Nat) (b1_to : Nat) (b1_berths : Nat) (b1_mate : Nat) (s_a_length : Int32) (s_a_faultPlace : Int32) (s_a_fault : Int32) (s_a_place : Int32) (s_a_numberPlace : Int32) (s_a_isLawTold : Int32) (f_a_letters : Nat → Int32) (s_b1_cars : Int32) (s_b1_sleepers : Int32) (s_b1_couples : Int32) (s_b1_law : Int32) (f_b1_pitch : Nat → Int32) (f_b1_loud : Nat → Int32) (f_b1_depth : Nat → Int32) (f_b1_from : Nat → Int32) (f_b1_to : Nat → Int32) : va_W := [(a, .inr (6, [.ref a_letters, .int s_a_length, .int s_a_faultPlace, .int s_a_fault, .int s_a_place, .int s_a_numberPlace, .int s_a_isLawTold])), (a_letters, .inl (kI K, 240, .inl f_a_letters)), (b1, .inr (7, [.int s_b1_cars, .int s_b1_sleepers, .int s_b1_couples, .int s_b1_law, .ref b1_berths, .ref b1_pitch, .ref b1_loud, .ref b1_depth, .ref b1_from, .ref b1_to, .ref b1_mate])), (b1_pitch, .inl (kI K, 8, .inl f_b1_pitch)), (b1_loud, .inl (kI K, 8, .inl f_b1_loud)), (b1_depth, .inl (kI K, 8, .inl f_b1_depth)), (b1_from, .inl (kI K, 8, .inl f_b1_from)), (b1_to, .inl (kI K, 8, .inl f_b1_to))]
def M_X6_readSleeper : gM := (yX6_readSleeper, cX6_readSleeper, 5, none, { frames := 3, cells := 0, slots := 0, locals := 65 })
def O_X6_readSleeper (K : gK) (a : Nat) (a_letters : Nat) (b1 : Nat) (b1_pitch : Nat) (b1_loud : Nat) (b1_depth : Nat) (b1_from : Nat) (b1_to : Nat) (b1_berths : Nat) (b1_mate : Nat) (s_a_isLawTold : Int32) (s_b1_cars : Int32) (s_b1_couples : Int32) (s_b1_law : Int32) (s_a_length : Int32) (f_a_letters : Nat → Int32) (o : Int32 × Int32 × Int32 × Int32 × Int32 × (Nat → Int32) × (Nat → Int32) × (Nat → Int32) × (Nat → Int32) × (Nat → Int32)) : Option Value → va_W → Prop := fun r w => r = none ∧ w = C_X6_readSleeper K a a_letters b1 b1_pitch b1_loud b1_depth b1_from b1_to b1_berths b1_mate s_a_length o.1 o.2.1 o.2.2.1 o.2.2.2.1 s_a_isLawTold f_a_letters s_b1_cars o.2.2.2.2.1 s_b1_couples s_b1_law o.2.2.2.2.2.1 o.2.2.2.2.2.2.1 o.2.2.2.2.2.2.2.1 o.2.2.2.2.2.2.2.2.1 o.2.2.2.2.2.2.2.2.2
noncomputable def B_X6_readSleeper_82 (N : Nat) (s_a_length : Int32) (f_a_letters : Nat → Int32)  (s_a_faultPlace : Int32) (s_a_fault : Int32) (s_a_place : Int32) (s_a_numberPlace : Int32) (s_b1_sleepers : Int32) (f_b1_pitch : Nat → Int32) (f_b1_loud : Nat → Int32) (f_b1_depth : Nat → Int32) (f_b1_from : Nat → Int32) (f_b1_to : Nat → Int32) (x2 : Int32) (x3 : Int32) (x4 : Int32) : Option (Int32 × Int32 × Int32 × Int32 × Int32 × (Nat → Int32) × (Nat → Int32) × (Nat → Int32) × (Nat → Int32) × (Nat → Int32)) := bnd (F_X8_lay 8 f_b1_from x2 x3) (fun o9 => bnd (F_X8_lay 8 f_b1_to x2 x4) (fun o10 => nm (s_b1_sleepers + (1 : Int32)) (fun v11 => bnd (F_X6_readComma N s_a_length s_a_faultPlace s_a_fault s_a_place f_a_letters (0 : Int32)) (fun o12 => some (o12.2.1, o12.2.2.1, o12.2.2.2, s_a_numberPlace, v11, f_b1_pitch, f_b1_loud, f_b1_depth, o9, o10)))))
set_option maxHeartbeats 4000000 in
theorem G_X6_readSleeper_82 {K : gK} {X : gX} {wi : va_W} {o : Int32 × Int32 × Int32 × Int32 × Int32 × (Nat → Int32) × (Nat → Int32) × (Nat → Int32) × (Nat → Int32) × (Nat → Int32)} (N : Nat) (s_a_length : Int32) (f_a_letters : Nat → Int32) (a : Nat) (a_letters : Nat) (b1 : Nat) (b1_pitch : Nat) (b1_loud : Nat) (b1_depth : Nat) (b1_from : Nat) (b1_to : Nat) (b1_berths : Nat) (b1_mate : Nat) (s_a_isLawTold : Int32) (s_b1_cars : Int32) (s_b1_couples : Int32) (s_b1_law : Int32) (hR : gR K X M_X6_readSleeper wi (O_X6_readSleeper K a a_letters b1 b1_pitch b1_loud b1_depth b1_from b1_to b1_berths b1_mate s_a_isLawTold s_b1_cars s_b1_couples s_b1_law s_a_length f_a_letters o))  (s_a_faultPlace : Int32) (s_a_fault : Int32) (s_a_place : Int32) (s_a_numberPlace : Int32) (s_b1_sleepers : Int32) (f_b1_pitch : Nat → Int32) (f_b1_loud : Nat → Int32) (f_b1_depth : Nat → Int32) (f_b1_from : Nat → Int32) (f_b1_to : Nat → Int32) (x2 : Int32) (x3 : Int32) (x4 : Int32) (hF : B_X6_readSleeper_82 N s_a_length f_a_letters  s_a_faultPlace s_a_fault s_a_place s_a_numberPlace s_b1_sleepers f_b1_pitch f_b1_loud f_b1_depth f_b1_from f_b1_to x2 x3 x4 = some o) : Go K X M_X6_readSleeper 0 0 (C_X6_readSleeper K a a_letters b1 b1_pitch b1_loud b1_depth b1_from b1_to b1_berths b1_mate s_a_length s_a_faultPlace s_a_fault s_a_place s_a_numberPlace s_a_isLawTold f_a_letters s_b1_cars s_b1_sleepers s_b1_couples s_b1_law f_b1_pitch f_b1_loud f_b1_depth f_b1_from f_b1_to) [(0, .ref a), (1, .ref b1), (2, .int x2), (3, .int x3), (4, .int x4)] 82 [] := by
  unfold B_X6_readSleeper_82 at hF
  refine go_aload_n 1 dX6_readSleeper_82 rfl rfl ?_
  refine go_get 7 2 8 hcX7 inX7 (Nat.le_of_ble_eq_true rfl) wd165 rfl rfl dX6_readSleeper_83 ?_
  refine go_iload_n 2 dX6_readSleeper_86 rfl rfl ?_
  refine go_iload_n 3 dX6_readSleeper_87 rfl rfl ?_
  obtain ⟨o9, ho9, hF⟩ := bnd_elim hF
  refine go_callSN (As := [.ref b1_from, .int x2, .int x3]) (rest := []) (wr := [(a, .inr (6, [.ref a_letters, .int s_a_length, .int s_a_faultPlace, .int s_a_fault, .int s_a_place, .int s_a_numberPlace, .int s_a_isLawTold])), (a_letters, .inl (kI K, 240, .inl f_a_letters)), (b1, .inr (7, [.int s_b1_cars, .int s_b1_sleepers, .int s_b1_couples, .int s_b1_law, .ref b1_berths, .ref b1_pitch, .ref b1_loud, .ref b1_depth, .ref b1_from, .ref b1_to, .ref b1_mate])), (b1_pitch, .inl (kI K, 8, .inl f_b1_pitch)), (b1_loud, .inl (kI K, 8, .inl f_b1_loud)), (b1_depth, .inl (kI K, 8, .inl f_b1_depth)), (b1_to, .inl (kI K, 8, .inl f_b1_to))]) (kn_X8_lay K b1_from 8 f_b1_from x2 x3 ho9) ok_X8_lay ⟨Nat.le_of_ble_eq_true rfl, Nat.le_of_ble_eq_true rfl⟩ ⟨Nat.le_of_ble_eq_true rfl, Nat.le_of_ble_eq_true rfl⟩ ns6 rfl rfl (Nat.le_of_ble_eq_true rfl) dX6_readSleeper_88 [6] [0, 1, 2, 3, 4, 5, 7] rfl rfl rfl rfl (by decide) (fun r wo hO => ?_)
  obtain ⟨rfl, rfl⟩ := hO
  refine go_ws (ws' := C_X6_readSleeper K a a_letters b1 b1_pitch b1_loud b1_depth b1_from b1_to b1_berths b1_mate s_a_length s_a_faultPlace s_a_fault s_a_place s_a_numberPlace s_a_isLawTold f_a_letters s_b1_cars s_b1_sleepers s_b1_couples s_b1_law f_b1_pitch f_b1_loud f_b1_depth o9 f_b1_to) [0, 1, 2, 3, 4, 5, 7, 6] rfl rfl ?_
  refine go_eq (pc' := 91) (st' := []) rfl rfl ?_
  refine go_aload_n 1 dX6_readSleeper_91 rfl rfl ?_
  refine go_get 7 2 9 hcX7 inX7 (Nat.le_of_ble_eq_true rfl) wd169 rfl rfl dX6_readSleeper_92 ?_
  refine go_iload_n 2 dX6_readSleeper_95 rfl rfl ?_
  refine go_iload 4 dX6_readSleeper_96 rfl ?_
  obtain ⟨o10, ho10, hF⟩ := bnd_elim hF
  refine go_callSN (As := [.ref b1_to, .int x2, .int x4]) (rest := []) (wr := [(a, .inr (6, [.ref a_letters, .int s_a_length, .int s_a_faultPlace, .int s_a_fault, .int s_a_place, .int s_a_numberPlace, .int s_a_isLawTold])), (a_letters, .inl (kI K, 240, .inl f_a_letters)), (b1, .inr (7, [.int s_b1_cars, .int s_b1_sleepers, .int s_b1_couples, .int s_b1_law, .ref b1_berths, .ref b1_pitch, .ref b1_loud, .ref b1_depth, .ref b1_from, .ref b1_to, .ref b1_mate])), (b1_pitch, .inl (kI K, 8, .inl f_b1_pitch)), (b1_loud, .inl (kI K, 8, .inl f_b1_loud)), (b1_depth, .inl (kI K, 8, .inl f_b1_depth)), (b1_from, .inl (kI K, 8, .inl o9))]) (kn_X8_lay K b1_to 8 f_b1_to x2 x4 ho10) ok_X8_lay ⟨Nat.le_of_ble_eq_true rfl, Nat.le_of_ble_eq_true rfl⟩ ⟨Nat.le_of_ble_eq_true rfl, Nat.le_of_ble_eq_true rfl⟩ ns6 rfl rfl (Nat.le_of_ble_eq_true rfl) dX6_readSleeper_98 [7] [0, 1, 2, 3, 4, 5, 6] rfl rfl rfl rfl (by decide) (fun r wo hO => ?_)
  obtain ⟨rfl, rfl⟩ := hO
  refine go_ws (ws' := C_X6_readSleeper K a a_letters b1 b1_pitch b1_loud b1_depth b1_from b1_to b1_berths b1_mate s_a_length s_a_faultPlace s_a_fault s_a_place s_a_numberPlace s_a_isLawTold f_a_letters s_b1_cars s_b1_sleepers s_b1_couples s_b1_law f_b1_pitch f_b1_loud f_b1_depth o9 o10) [0, 1, 2, 3, 4, 5, 6, 7] rfl rfl ?_
  refine go_eq (pc' := 101) (st' := []) rfl rfl ?_
  refine go_aload_n 1 dX6_readSleeper_101 rfl rfl ?_
  refine go_dup dX6_readSleeper_102 rfl ?_
  refine go_get 7 2 1 hcX7 inX7 (Nat.le_of_ble_eq_true rfl) wd139 rfl rfl dX6_readSleeper_103 ?_
  refine go_iconst (v := (1 : Int32)) dX6_readSleeper_106 (by decide) ?_
  refine go_iadd dX6_readSleeper_107 ?_
  refine go_nmi hF (fun v11 hF => ?_)
  refine go_put 7 2 1 (C_X6_readSleeper K a a_letters b1 b1_pitch b1_loud b1_depth b1_from b1_to b1_berths b1_mate s_a_length s_a_faultPlace s_a_fault s_a_place s_a_numberPlace s_a_isLawTold f_a_letters s_b1_cars v11 s_b1_couples s_b1_law f_b1_pitch f_b1_loud f_b1_depth o9 o10) hcX7 inX7 tyX7_ok nmX7 (Nat.le_of_ble_eq_true rfl) wd139 rfl rfl rfl rfl (Nat.le_of_ble_eq_true rfl) rfl dX6_readSleeper_108 ?_
  refine go_aload_n 0 dX6_readSleeper_111 rfl rfl ?_
  refine go_iconst (v := (0 : Int32)) dX6_readSleeper_112 (by decide) ?_
  obtain ⟨o12, ho12, hF⟩ := bnd_elim hF
  refine go_callV (As := [.int (0 : Int32)]) (rest := []) (wr := [(b1, .inr (7, [.int s_b1_cars, .int v11, .int s_b1_couples, .int s_b1_law, .ref b1_berths, .ref b1_pitch, .ref b1_loud, .ref b1_depth, .ref b1_from, .ref b1_to, .ref b1_mate])), (b1_pitch, .inl (kI K, 8, .inl f_b1_pitch)), (b1_loud, .inl (kI K, 8, .inl f_b1_loud)), (b1_depth, .inl (kI K, 8, .inl f_b1_depth)), (b1_from, .inl (kI K, 8, .inl o9)), (b1_to, .inl (kI K, 8, .inl o10))]) 6 0 hcX6 rfl (kn_X6_readComma K N a a_letters s_a_numberPlace s_a_isLawTold s_a_length s_a_faultPlace s_a_fault s_a_place f_a_letters (0 : Int32) ho12) ok_X6_readComma ⟨Nat.le_of_ble_eq_true rfl, Nat.le_of_ble_eq_true rfl⟩ ⟨Nat.le_of_ble_eq_true rfl, Nat.le_of_ble_eq_true rfl⟩ wd458 rfl rfl (Nat.le_of_ble_eq_true rfl) dX6_readSleeper_113 [0, 1] [2, 3, 4, 5, 6, 7] rfl rfl rfl rfl (by decide) (fun r wo hO => ?_)
  obtain ⟨rfl, rfl⟩ := hO
  refine go_ws (ws' := C_X6_readSleeper K a a_letters b1 b1_pitch b1_loud b1_depth b1_from b1_to b1_berths b1_mate s_a_length o12.2.1 o12.2.2.1 o12.2.2.2 s_a_numberPlace s_a_isLawTold f_a_letters s_b1_cars v11 s_b1_couples s_b1_law f_b1_pitch f_b1_loud f_b1_depth o9 o10) [6, 7, 0, 1, 2, 3, 4, 5] rfl rfl ?_
  refine go_eq (pc' := 116) (st' := [.int o12.1]) rfl rfl ?_
  refine go_pop dX6_readSleeper_116 rfl ?_
  exact go_vret (Om := O_X6_readSleeper K a a_letters b1 b1_pitch b1_loud b1_depth b1_from b1_to b1_berths b1_mate s_a_isLawTold s_b1_cars s_b1_couples s_b1_law s_a_length f_a_letters) hR hF dX6_readSleeper_117 rfl (Nat.zero_le _) (Nat.zero_le _) ⟨rfl, rfl⟩
noncomputable def F_X6_readSleeper (N : Nat) (s_a_length : Int32) (s_a_faultPlace : Int32) (s_a_fault : Int32) (s_a_place : Int32) (s_a_numberPlace : Int32) (f_a_letters : Nat → Int32) (s_b1_sleepers : Int32) (f_b1_pitch : Nat → Int32) (f_b1_loud : Nat → Int32) (f_b1_depth : Nat → Int32) (f_b1_from : Nat → Int32) (f_b1_to : Nat → Int32) : Option (Int32 × Int32 × Int32 × Int32 × Int32 × (Nat → Int32) × (Nat → Int32) × (Nat → Int32) × (Nat → Int32) × (Nat → Int32)) := bnd (F_X6_readNumber N s_a_length s_a_faultPlace s_a_fault s_a_place s_a_numberPlace f_a_letters (0 : Int32) (11 : Int32)) (fun o1 => bnd (F_X8_lay 8 f_b1_pitch s_b1_sleepers o1.1) (fun o2 => bnd (F_X6_readNumber N s_a_length o1.2.1 o1.2.2.1 o1.2.2.2.1 o1.2.2.2.2 f_a_letters (0 : Int32) (9 : Int32)) (fun o3 => bnd (F_X8_lay 8 f_b1_loud s_b1_sleepers o3.1) (fun o4 => bnd (F_X6_readNumber N s_a_length o3.2.1 o3.2.2.1 o3.2.2.2.1 o3.2.2.2.2 f_a_letters (0 : Int32) (40 : Int32)) (fun o5 => bnd (F_X8_lay 8 f_b1_depth s_b1_sleepers o5.1) (fun o6 => bnd (F_X6_readNumber N s_a_length o5.2.1 o5.2.2.1 o5.2.2.2.1 o5.2.2.2.2 f_a_letters (0 : Int32) (12 : Int32)) (fun o7 => bnd (F_X6_readNumber N s_a_length o7.2.1 o7.2.2.1 o7.2.2.2.1 o7.2.2.2.2 f_a_letters (0 : Int32) (12 : Int32)) (fun o8 => if o7.1 ≤ o8.1 then B_X6_readSleeper_82 N s_a_length f_a_letters o8.2.1 o8.2.2.1 o8.2.2.2.1 o8.2.2.2.2 s_b1_sleepers o2 o4 o6 f_b1_from f_b1_to s_b1_sleepers o7.1 o8.1 else bnd (F_X6_fail o8.2.1 o8.2.2.1 (4 : Int32) o8.2.2.2.2) (fun o13 => B_X6_readSleeper_82 N s_a_length f_a_letters o13.1 o13.2 o8.2.2.2.1 o8.2.2.2.2 s_b1_sleepers o2 o4 o6 f_b1_from f_b1_to s_b1_sleepers o7.1 o8.1)))))))))
set_option maxHeartbeats 4000000 in
theorem kn_X6_readSleeper (K : gK) (N : Nat) (a : Nat) (a_letters : Nat) (b1 : Nat) (b1_pitch : Nat) (b1_loud : Nat) (b1_depth : Nat) (b1_from : Nat) (b1_to : Nat) (b1_berths : Nat) (b1_mate : Nat) (s_a_isLawTold : Int32) (s_b1_cars : Int32) (s_b1_couples : Int32) (s_b1_law : Int32) (s_a_length : Int32) (s_a_faultPlace : Int32) (s_a_fault : Int32) (s_a_place : Int32) (s_a_numberPlace : Int32) (f_a_letters : Nat → Int32) (s_b1_sleepers : Int32) (f_b1_pitch : Nat → Int32) (f_b1_loud : Nat → Int32) (f_b1_depth : Nat → Int32) (f_b1_from : Nat → Int32) (f_b1_to : Nat → Int32) {o : Int32 × Int32 × Int32 × Int32 × Int32 × (Nat → Int32) × (Nat → Int32) × (Nat → Int32) × (Nat → Int32) × (Nat → Int32)} (hF : F_X6_readSleeper N s_a_length s_a_faultPlace s_a_fault s_a_place s_a_numberPlace f_a_letters s_b1_sleepers f_b1_pitch f_b1_loud f_b1_depth f_b1_from f_b1_to = some o) : Kn K M_X6_readSleeper [.ref a, .ref b1] (C_X6_readSleeper K a a_letters b1 b1_pitch b1_loud b1_depth b1_from b1_to b1_berths b1_mate s_a_length s_a_faultPlace s_a_fault s_a_place s_a_numberPlace s_a_isLawTold f_a_letters s_b1_cars s_b1_sleepers s_b1_couples s_b1_law f_b1_pitch f_b1_loud f_b1_depth f_b1_from f_b1_to) (O_X6_readSleeper K a a_letters b1 b1_pitch b1_loud b1_depth b1_from b1_to b1_berths b1_mate s_a_isLawTold s_b1_cars s_b1_couples s_b1_law s_a_length f_a_letters o) := by
  refine kn_of (by decide +kernel) (Nat.le_of_ble_eq_true rfl) (fun X hR => ?_)
  refine go_loc (L' := [(0, .ref a), (1, .ref b1)]) [0, 1] rfl ?_
  unfold F_X6_readSleeper at hF
  refine go_aload_n 1 dX6_readSleeper_0 rfl rfl ?_
  refine go_get 7 2 1 hcX7 inX7 (Nat.le_of_ble_eq_true rfl) wd139 rfl rfl dX6_readSleeper_1 ?_
  refine go_istore_n [(2, .int s_b1_sleepers), (0, .ref a), (1, .ref b1)] dX6_readSleeper_4 rfl (Nat.le_of_ble_eq_true rfl) rfl ?_
  refine go_aload_n 2 dX6_readSleeper_5 rfl rfl ?_
  refine go_get 7 2 5 hcX7 inX7 (Nat.le_of_ble_eq_true rfl) wd153 rfl rfl dX6_readSleeper_6 ?_
  refine go_iload_n 0 dX6_readSleeper_9 rfl rfl ?_
  refine go_aload_n 1 dX6_readSleeper_10 rfl rfl ?_
  refine go_iconst (v := (0 : Int32)) dX6_readSleeper_11 (by decide) ?_
  refine go_bipush (v := (11 : Int32)) dX6_readSleeper_12 (by decide) ?_
  obtain ⟨o1, ho1, hF⟩ := bnd_elim hF
  refine go_callV (As := [.int (0 : Int32), .int (11 : Int32)]) (rest := [.int s_b1_sleepers, .ref b1_pitch]) (wr := [(b1, .inr (7, [.int s_b1_cars, .int s_b1_sleepers, .int s_b1_couples, .int s_b1_law, .ref b1_berths, .ref b1_pitch, .ref b1_loud, .ref b1_depth, .ref b1_from, .ref b1_to, .ref b1_mate])), (b1_pitch, .inl (kI K, 8, .inl f_b1_pitch)), (b1_loud, .inl (kI K, 8, .inl f_b1_loud)), (b1_depth, .inl (kI K, 8, .inl f_b1_depth)), (b1_from, .inl (kI K, 8, .inl f_b1_from)), (b1_to, .inl (kI K, 8, .inl f_b1_to))]) 6 0 hcX6 rfl (kn_X6_readNumber K N a a_letters s_a_isLawTold s_a_length s_a_faultPlace s_a_fault s_a_place s_a_numberPlace f_a_letters (0 : Int32) (11 : Int32) ho1) ok_X6_readNumber ⟨Nat.le_of_ble_eq_true rfl, Nat.le_of_ble_eq_true rfl⟩ ⟨Nat.le_of_ble_eq_true rfl, Nat.le_of_ble_eq_true rfl⟩ wd451 rfl rfl (Nat.le_of_ble_eq_true rfl) dX6_readSleeper_14 [0, 1] [2, 3, 4, 5, 6, 7] rfl rfl rfl rfl (by decide) (fun r wo hO => ?_)
  obtain ⟨rfl, rfl⟩ := hO
  refine go_ws (ws' := C_X6_readSleeper K a a_letters b1 b1_pitch b1_loud b1_depth b1_from b1_to b1_berths b1_mate s_a_length o1.2.1 o1.2.2.1 o1.2.2.2.1 o1.2.2.2.2 s_a_isLawTold f_a_letters s_b1_cars s_b1_sleepers s_b1_couples s_b1_law f_b1_pitch f_b1_loud f_b1_depth f_b1_from f_b1_to) [6, 7, 0, 1, 2, 3, 4, 5] rfl rfl ?_
  refine go_eq (pc' := 17) (st' := [.int o1.1, .int s_b1_sleepers, .ref b1_pitch]) rfl rfl ?_
  obtain ⟨o2, ho2, hF⟩ := bnd_elim hF
  refine go_callSN (As := [.ref b1_pitch, .int s_b1_sleepers, .int o1.1]) (rest := []) (wr := [(a, .inr (6, [.ref a_letters, .int s_a_length, .int o1.2.1, .int o1.2.2.1, .int o1.2.2.2.1, .int o1.2.2.2.2, .int s_a_isLawTold])), (a_letters, .inl (kI K, 240, .inl f_a_letters)), (b1, .inr (7, [.int s_b1_cars, .int s_b1_sleepers, .int s_b1_couples, .int s_b1_law, .ref b1_berths, .ref b1_pitch, .ref b1_loud, .ref b1_depth, .ref b1_from, .ref b1_to, .ref b1_mate])), (b1_loud, .inl (kI K, 8, .inl f_b1_loud)), (b1_depth, .inl (kI K, 8, .inl f_b1_depth)), (b1_from, .inl (kI K, 8, .inl f_b1_from)), (b1_to, .inl (kI K, 8, .inl f_b1_to))]) (kn_X8_lay K b1_pitch 8 f_b1_pitch s_b1_sleepers o1.1 ho2) ok_X8_lay ⟨Nat.le_of_ble_eq_true rfl, Nat.le_of_ble_eq_true rfl⟩ ⟨Nat.le_of_ble_eq_true rfl, Nat.le_of_ble_eq_true rfl⟩ ns6 rfl rfl (Nat.le_of_ble_eq_true rfl) dX6_readSleeper_17 [3] [0, 1, 2, 4, 5, 6, 7] rfl rfl rfl rfl (by decide) (fun r wo hO => ?_)
  obtain ⟨rfl, rfl⟩ := hO
  refine go_ws (ws' := C_X6_readSleeper K a a_letters b1 b1_pitch b1_loud b1_depth b1_from b1_to b1_berths b1_mate s_a_length o1.2.1 o1.2.2.1 o1.2.2.2.1 o1.2.2.2.2 s_a_isLawTold f_a_letters s_b1_cars s_b1_sleepers s_b1_couples s_b1_law o2 f_b1_loud f_b1_depth f_b1_from f_b1_to) [0, 1, 2, 7, 3, 4, 5, 6] rfl rfl ?_
  refine go_eq (pc' := 20) (st' := []) rfl rfl ?_
  refine go_aload_n 2 dX6_readSleeper_20 rfl rfl ?_
  refine go_get 7 2 6 hcX7 inX7 (Nat.le_of_ble_eq_true rfl) wd157 rfl rfl dX6_readSleeper_21 ?_
  refine go_iload_n 0 dX6_readSleeper_24 rfl rfl ?_
  refine go_aload_n 1 dX6_readSleeper_25 rfl rfl ?_
  refine go_iconst (v := (0 : Int32)) dX6_readSleeper_26 (by decide) ?_
  refine go_bipush (v := (9 : Int32)) dX6_readSleeper_27 (by decide) ?_
  obtain ⟨o3, ho3, hF⟩ := bnd_elim hF
  refine go_callV (As := [.int (0 : Int32), .int (9 : Int32)]) (rest := [.int s_b1_sleepers, .ref b1_loud]) (wr := [(b1, .inr (7, [.int s_b1_cars, .int s_b1_sleepers, .int s_b1_couples, .int s_b1_law, .ref b1_berths, .ref b1_pitch, .ref b1_loud, .ref b1_depth, .ref b1_from, .ref b1_to, .ref b1_mate])), (b1_pitch, .inl (kI K, 8, .inl o2)), (b1_loud, .inl (kI K, 8, .inl f_b1_loud)), (b1_depth, .inl (kI K, 8, .inl f_b1_depth)), (b1_from, .inl (kI K, 8, .inl f_b1_from)), (b1_to, .inl (kI K, 8, .inl f_b1_to))]) 6 0 hcX6 rfl (kn_X6_readNumber K N a a_letters s_a_isLawTold s_a_length o1.2.1 o1.2.2.1 o1.2.2.2.1 o1.2.2.2.2 f_a_letters (0 : Int32) (9 : Int32) ho3) ok_X6_readNumber ⟨Nat.le_of_ble_eq_true rfl, Nat.le_of_ble_eq_true rfl⟩ ⟨Nat.le_of_ble_eq_true rfl, Nat.le_of_ble_eq_true rfl⟩ wd451 rfl rfl (Nat.le_of_ble_eq_true rfl) dX6_readSleeper_29 [0, 1] [2, 3, 4, 5, 6, 7] rfl rfl rfl rfl (by decide) (fun r wo hO => ?_)
  obtain ⟨rfl, rfl⟩ := hO
  refine go_ws (ws' := C_X6_readSleeper K a a_letters b1 b1_pitch b1_loud b1_depth b1_from b1_to b1_berths b1_mate s_a_length o3.2.1 o3.2.2.1 o3.2.2.2.1 o3.2.2.2.2 s_a_isLawTold f_a_letters s_b1_cars s_b1_sleepers s_b1_couples s_b1_law o2 f_b1_loud f_b1_depth f_b1_from f_b1_to) [6, 7, 0, 1, 2, 3, 4, 5] rfl rfl ?_
  refine go_eq (pc' := 32) (st' := [.int o3.1, .int s_b1_sleepers, .ref b1_loud]) rfl rfl ?_
  obtain ⟨o4, ho4, hF⟩ := bnd_elim hF
  refine go_callSN (As := [.ref b1_loud, .int s_b1_sleepers, .int o3.1]) (rest := []) (wr := [(a, .inr (6, [.ref a_letters, .int s_a_length, .int o3.2.1, .int o3.2.2.1, .int o3.2.2.2.1, .int o3.2.2.2.2, .int s_a_isLawTold])), (a_letters, .inl (kI K, 240, .inl f_a_letters)), (b1, .inr (7, [.int s_b1_cars, .int s_b1_sleepers, .int s_b1_couples, .int s_b1_law, .ref b1_berths, .ref b1_pitch, .ref b1_loud, .ref b1_depth, .ref b1_from, .ref b1_to, .ref b1_mate])), (b1_pitch, .inl (kI K, 8, .inl o2)), (b1_depth, .inl (kI K, 8, .inl f_b1_depth)), (b1_from, .inl (kI K, 8, .inl f_b1_from)), (b1_to, .inl (kI K, 8, .inl f_b1_to))]) (kn_X8_lay K b1_loud 8 f_b1_loud s_b1_sleepers o3.1 ho4) ok_X8_lay ⟨Nat.le_of_ble_eq_true rfl, Nat.le_of_ble_eq_true rfl⟩ ⟨Nat.le_of_ble_eq_true rfl, Nat.le_of_ble_eq_true rfl⟩ ns6 rfl rfl (Nat.le_of_ble_eq_true rfl) dX6_readSleeper_32 [4] [0, 1, 2, 3, 5, 6, 7] rfl rfl rfl rfl (by decide) (fun r wo hO => ?_)
  obtain ⟨rfl, rfl⟩ := hO
  refine go_ws (ws' := C_X6_readSleeper K a a_letters b1 b1_pitch b1_loud b1_depth b1_from b1_to b1_berths b1_mate s_a_length o3.2.1 o3.2.2.1 o3.2.2.2.1 o3.2.2.2.2 s_a_isLawTold f_a_letters s_b1_cars s_b1_sleepers s_b1_couples s_b1_law o2 o4 f_b1_depth f_b1_from f_b1_to) [0, 1, 2, 3, 7, 4, 5, 6] rfl rfl ?_
  refine go_eq (pc' := 35) (st' := []) rfl rfl ?_
  refine go_aload_n 2 dX6_readSleeper_35 rfl rfl ?_
  refine go_get 7 2 7 hcX7 inX7 (Nat.le_of_ble_eq_true rfl) wd161 rfl rfl dX6_readSleeper_36 ?_
  refine go_iload_n 0 dX6_readSleeper_39 rfl rfl ?_
  refine go_aload_n 1 dX6_readSleeper_40 rfl rfl ?_
  refine go_iconst (v := (0 : Int32)) dX6_readSleeper_41 (by decide) ?_
  refine go_bipush (v := (40 : Int32)) dX6_readSleeper_42 (by decide) ?_
  obtain ⟨o5, ho5, hF⟩ := bnd_elim hF
  refine go_callV (As := [.int (0 : Int32), .int (40 : Int32)]) (rest := [.int s_b1_sleepers, .ref b1_depth]) (wr := [(b1, .inr (7, [.int s_b1_cars, .int s_b1_sleepers, .int s_b1_couples, .int s_b1_law, .ref b1_berths, .ref b1_pitch, .ref b1_loud, .ref b1_depth, .ref b1_from, .ref b1_to, .ref b1_mate])), (b1_pitch, .inl (kI K, 8, .inl o2)), (b1_loud, .inl (kI K, 8, .inl o4)), (b1_depth, .inl (kI K, 8, .inl f_b1_depth)), (b1_from, .inl (kI K, 8, .inl f_b1_from)), (b1_to, .inl (kI K, 8, .inl f_b1_to))]) 6 0 hcX6 rfl (kn_X6_readNumber K N a a_letters s_a_isLawTold s_a_length o3.2.1 o3.2.2.1 o3.2.2.2.1 o3.2.2.2.2 f_a_letters (0 : Int32) (40 : Int32) ho5) ok_X6_readNumber ⟨Nat.le_of_ble_eq_true rfl, Nat.le_of_ble_eq_true rfl⟩ ⟨Nat.le_of_ble_eq_true rfl, Nat.le_of_ble_eq_true rfl⟩ wd451 rfl rfl (Nat.le_of_ble_eq_true rfl) dX6_readSleeper_44 [0, 1] [2, 3, 4, 5, 6, 7] rfl rfl rfl rfl (by decide) (fun r wo hO => ?_)
  obtain ⟨rfl, rfl⟩ := hO
  refine go_ws (ws' := C_X6_readSleeper K a a_letters b1 b1_pitch b1_loud b1_depth b1_from b1_to b1_berths b1_mate s_a_length o5.2.1 o5.2.2.1 o5.2.2.2.1 o5.2.2.2.2 s_a_isLawTold f_a_letters s_b1_cars s_b1_sleepers s_b1_couples s_b1_law o2 o4 f_b1_depth f_b1_from f_b1_to) [6, 7, 0, 1, 2, 3, 4, 5] rfl rfl ?_
  refine go_eq (pc' := 47) (st' := [.int o5.1, .int s_b1_sleepers, .ref b1_depth]) rfl rfl ?_
  obtain ⟨o6, ho6, hF⟩ := bnd_elim hF
  refine go_callSN (As := [.ref b1_depth, .int s_b1_sleepers, .int o5.1]) (rest := []) (wr := [(a, .inr (6, [.ref a_letters, .int s_a_length, .int o5.2.1, .int o5.2.2.1, .int o5.2.2.2.1, .int o5.2.2.2.2, .int s_a_isLawTold])), (a_letters, .inl (kI K, 240, .inl f_a_letters)), (b1, .inr (7, [.int s_b1_cars, .int s_b1_sleepers, .int s_b1_couples, .int s_b1_law, .ref b1_berths, .ref b1_pitch, .ref b1_loud, .ref b1_depth, .ref b1_from, .ref b1_to, .ref b1_mate])), (b1_pitch, .inl (kI K, 8, .inl o2)), (b1_loud, .inl (kI K, 8, .inl o4)), (b1_from, .inl (kI K, 8, .inl f_b1_from)), (b1_to, .inl (kI K, 8, .inl f_b1_to))]) (kn_X8_lay K b1_depth 8 f_b1_depth s_b1_sleepers o5.1 ho6) ok_X8_lay ⟨Nat.le_of_ble_eq_true rfl, Nat.le_of_ble_eq_true rfl⟩ ⟨Nat.le_of_ble_eq_true rfl, Nat.le_of_ble_eq_true rfl⟩ ns6 rfl rfl (Nat.le_of_ble_eq_true rfl) dX6_readSleeper_47 [5] [0, 1, 2, 3, 4, 6, 7] rfl rfl rfl rfl (by decide) (fun r wo hO => ?_)
  obtain ⟨rfl, rfl⟩ := hO
  refine go_ws (ws' := C_X6_readSleeper K a a_letters b1 b1_pitch b1_loud b1_depth b1_from b1_to b1_berths b1_mate s_a_length o5.2.1 o5.2.2.1 o5.2.2.2.1 o5.2.2.2.2 s_a_isLawTold f_a_letters s_b1_cars s_b1_sleepers s_b1_couples s_b1_law o2 o4 o6 f_b1_from f_b1_to) [0, 1, 2, 3, 4, 7, 5, 6] rfl rfl ?_
  refine go_eq (pc' := 50) (st' := []) rfl rfl ?_
  refine go_aload_n 1 dX6_readSleeper_50 rfl rfl ?_
  refine go_iconst (v := (0 : Int32)) dX6_readSleeper_51 (by decide) ?_
  refine go_bipush (v := (12 : Int32)) dX6_readSleeper_52 (by decide) ?_
  obtain ⟨o7, ho7, hF⟩ := bnd_elim hF
  refine go_callV (As := [.int (0 : Int32), .int (12 : Int32)]) (rest := []) (wr := [(b1, .inr (7, [.int s_b1_cars, .int s_b1_sleepers, .int s_b1_couples, .int s_b1_law, .ref b1_berths, .ref b1_pitch, .ref b1_loud, .ref b1_depth, .ref b1_from, .ref b1_to, .ref b1_mate])), (b1_pitch, .inl (kI K, 8, .inl o2)), (b1_loud, .inl (kI K, 8, .inl o4)), (b1_depth, .inl (kI K, 8, .inl o6)), (b1_from, .inl (kI K, 8, .inl f_b1_from)), (b1_to, .inl (kI K, 8, .inl f_b1_to))]) 6 0 hcX6 rfl (kn_X6_readNumber K N a a_letters s_a_isLawTold s_a_length o5.2.1 o5.2.2.1 o5.2.2.2.1 o5.2.2.2.2 f_a_letters (0 : Int32) (12 : Int32) ho7) ok_X6_readNumber ⟨Nat.le_of_ble_eq_true rfl, Nat.le_of_ble_eq_true rfl⟩ ⟨Nat.le_of_ble_eq_true rfl, Nat.le_of_ble_eq_true rfl⟩ wd451 rfl rfl (Nat.le_of_ble_eq_true rfl) dX6_readSleeper_54 [0, 1] [2, 3, 4, 5, 6, 7] rfl rfl rfl rfl (by decide) (fun r wo hO => ?_)
  obtain ⟨rfl, rfl⟩ := hO
  refine go_ws (ws' := C_X6_readSleeper K a a_letters b1 b1_pitch b1_loud b1_depth b1_from b1_to b1_berths b1_mate s_a_length o7.2.1 o7.2.2.1 o7.2.2.2.1 o7.2.2.2.2 s_a_isLawTold f_a_letters s_b1_cars s_b1_sleepers s_b1_couples s_b1_law o2 o4 o6 f_b1_from f_b1_to) [6, 7, 0, 1, 2, 3, 4, 5] rfl rfl ?_
  refine go_eq (pc' := 57) (st' := [.int o7.1]) rfl rfl ?_
  refine go_istore_n [(3, .int o7.1), (2, .int s_b1_sleepers), (0, .ref a), (1, .ref b1)] dX6_readSleeper_57 rfl (Nat.le_of_ble_eq_true rfl) rfl ?_
  refine go_aload_n 2 dX6_readSleeper_58 rfl rfl ?_
  refine go_iconst (v := (0 : Int32)) dX6_readSleeper_59 (by decide) ?_
  refine go_bipush (v := (12 : Int32)) dX6_readSleeper_60 (by decide) ?_
  obtain ⟨o8, ho8, hF⟩ := bnd_elim hF
  refine go_callV (As := [.int (0 : Int32), .int (12 : Int32)]) (rest := []) (wr := [(b1, .inr (7, [.int s_b1_cars, .int s_b1_sleepers, .int s_b1_couples, .int s_b1_law, .ref b1_berths, .ref b1_pitch, .ref b1_loud, .ref b1_depth, .ref b1_from, .ref b1_to, .ref b1_mate])), (b1_pitch, .inl (kI K, 8, .inl o2)), (b1_loud, .inl (kI K, 8, .inl o4)), (b1_depth, .inl (kI K, 8, .inl o6)), (b1_from, .inl (kI K, 8, .inl f_b1_from)), (b1_to, .inl (kI K, 8, .inl f_b1_to))]) 6 0 hcX6 rfl (kn_X6_readNumber K N a a_letters s_a_isLawTold s_a_length o7.2.1 o7.2.2.1 o7.2.2.2.1 o7.2.2.2.2 f_a_letters (0 : Int32) (12 : Int32) ho8) ok_X6_readNumber ⟨Nat.le_of_ble_eq_true rfl, Nat.le_of_ble_eq_true rfl⟩ ⟨Nat.le_of_ble_eq_true rfl, Nat.le_of_ble_eq_true rfl⟩ wd451 rfl rfl (Nat.le_of_ble_eq_true rfl) dX6_readSleeper_62 [0, 1] [2, 3, 4, 5, 6, 7] rfl rfl rfl rfl (by decide) (fun r wo hO => ?_)
  obtain ⟨rfl, rfl⟩ := hO
  refine go_ws (ws' := C_X6_readSleeper K a a_letters b1 b1_pitch b1_loud b1_depth b1_from b1_to b1_berths b1_mate s_a_length o8.2.1 o8.2.2.1 o8.2.2.2.1 o8.2.2.2.2 s_a_isLawTold f_a_letters s_b1_cars s_b1_sleepers s_b1_couples s_b1_law o2 o4 o6 f_b1_from f_b1_to) [6, 7, 0, 1, 2, 3, 4, 5] rfl rfl ?_
  refine go_eq (pc' := 65) (st' := [.int o8.1]) rfl rfl ?_
  refine go_istore [(4, .int o8.1), (3, .int o7.1), (2, .int s_b1_sleepers), (0, .ref a), (1, .ref b1)] dX6_readSleeper_65 (Nat.le_of_ble_eq_true rfl) rfl ?_
  refine go_iload 0 dX6_readSleeper_67 rfl ?_
  refine go_iload_n 1 dX6_readSleeper_69 rfl rfl ?_
  refine go_icmp_ge 82 hF dX6_readSleeper_70 (by decide) (fun hF => ?_) (fun hF => ?_)
  · refine go_loc (L' := [(0, .ref a), (1, .ref b1), (2, .int s_b1_sleepers), (3, .int o7.1), (4, .int o8.1)]) [3, 4, 2, 1, 0] rfl ?_
    exact G_X6_readSleeper_82 N s_a_length f_a_letters a a_letters b1 b1_pitch b1_loud b1_depth b1_from b1_to b1_berths b1_mate s_a_isLawTold s_b1_cars s_b1_couples s_b1_law hR  o8.2.1 o8.2.2.1 o8.2.2.2.1 o8.2.2.2.2 s_b1_sleepers o2 o4 o6 f_b1_from f_b1_to s_b1_sleepers o7.1 o8.1 hF
  · refine go_aload_n 3 dX6_readSleeper_73 rfl rfl ?_
    refine go_iconst (v := (4 : Int32)) dX6_readSleeper_74 (by decide) ?_
    refine go_aload_n 3 dX6_readSleeper_75 rfl rfl ?_
    refine go_get 6 0 5 hcX6 inX6 (Nat.le_of_ble_eq_true rfl) wd98 rfl rfl dX6_readSleeper_76 ?_
    obtain ⟨o13, ho13, hF⟩ := bnd_elim hF
    refine go_callV (As := [.int (4 : Int32), .int o8.2.2.2.2]) (rest := []) (wr := [(a_letters, .inl (kI K, 240, .inl f_a_letters)), (b1, .inr (7, [.int s_b1_cars, .int s_b1_sleepers, .int s_b1_couples, .int s_b1_law, .ref b1_berths, .ref b1_pitch, .ref b1_loud, .ref b1_depth, .ref b1_from, .ref b1_to, .ref b1_mate])), (b1_pitch, .inl (kI K, 8, .inl o2)), (b1_loud, .inl (kI K, 8, .inl o4)), (b1_depth, .inl (kI K, 8, .inl o6)), (b1_from, .inl (kI K, 8, .inl f_b1_from)), (b1_to, .inl (kI K, 8, .inl f_b1_to))]) 6 0 hcX6 rfl (kn_X6_fail K a a_letters s_a_length o8.2.2.2.1 o8.2.2.2.2 s_a_isLawTold o8.2.1 o8.2.2.1 (4 : Int32) o8.2.2.2.2 ho13) ok_X6_fail ⟨Nat.le_of_ble_eq_true rfl, Nat.le_of_ble_eq_true rfl⟩ ⟨Nat.le_of_ble_eq_true rfl, Nat.le_of_ble_eq_true rfl⟩ wd443 rfl rfl (Nat.le_of_ble_eq_true rfl) dX6_readSleeper_79 [0] [1, 2, 3, 4, 5, 6, 7] rfl rfl rfl rfl (by decide) (fun r wo hO => ?_)
    obtain ⟨rfl, rfl⟩ := hO
    refine go_ws (ws' := C_X6_readSleeper K a a_letters b1 b1_pitch b1_loud b1_depth b1_from b1_to b1_berths b1_mate s_a_length o13.1 o13.2 o8.2.2.2.1 o8.2.2.2.2 s_a_isLawTold f_a_letters s_b1_cars s_b1_sleepers s_b1_couples s_b1_law o2 o4 o6 f_b1_from f_b1_to) [7, 0, 1, 2, 3, 4, 5, 6] rfl rfl ?_
    refine go_eq (pc' := 82) (st' := []) rfl rfl ?_
    refine go_loc (L' := [(0, .ref a), (1, .ref b1), (2, .int s_b1_sleepers), (3, .int o7.1), (4, .int o8.1)]) [3, 4, 2, 1, 0] rfl ?_
    exact G_X6_readSleeper_82 N s_a_length f_a_letters a a_letters b1 b1_pitch b1_loud b1_depth b1_from b1_to b1_berths b1_mate s_a_isLawTold s_b1_cars s_b1_couples s_b1_law hR  o13.1 o13.2 o8.2.2.2.1 o8.2.2.2.2 s_b1_sleepers o2 o4 o6 f_b1_from f_b1_to s_b1_sleepers o7.1 o8.1 hF
theorem ok_X6_readSleeper : gOkV M_X6_readSleeper 1 := ⟨⟨wd465, wd65, by decide +kernel, by decide +kernel, by decide +kernel⟩, wd464, wd8⟩
def C_X6_readLaw (K : gK) (a : Nat) (a_letters : Nat) (b1 : Nat) (b1_berths : Nat) (b1_pitch : Nat) (b1_loud : Nat) (b1_depth : Nat) (b1_from : Nat) (b1_to : Nat) (b1_mate : Nat) (s_a_length : Int32) (s_a_faultPlace : Int32) (s_a_fault : Int32) (s_a_place : Int32) (s_a_numberPlace : Int32) (s_a_isLawTold : Int32) (f_a_letters : Nat → Int32) (s_b1_cars : Int32) (s_b1_sleepers : Int32) (s_b1_couples : Int32) (s_b1_law : Int32) : va_W := [(a, .inr (6, [.ref a_letters, .int s_a_length, .int s_a_faultPlace, .int s_a_fault, .int s_a_place, .int s_a_numberPlace, .int s_a_isLawTold])), (a_letters, .inl (kI K, 240, .inl f_a_letters)), (b1, .inr (7, [.int s_b1_cars, .int s_b1_sleepers, .int s_b1_couples, .int s_b1_law, .ref b1_berths, .ref b1_pitch, .ref b1_loud, .ref b1_depth, .ref b1_from, .ref b1_to, .ref b1_mate]))]
def M_X6_readLaw : gM := (yX6_readLaw, cX6_readLaw, 6, none, { frames := 3, cells := 0, slots := 0, locals := 65 })
def O_X6_readLaw (K : gK) (a : Nat) (a_letters : Nat) (b1 : Nat) (b1_berths : Nat) (b1_pitch : Nat) (b1_loud : Nat) (b1_depth : Nat) (b1_from : Nat) (b1_to : Nat) (b1_mate : Nat) (s_b1_cars : Int32) (s_b1_sleepers : Int32) (s_b1_couples : Int32) (s_a_length : Int32) (f_a_letters : Nat → Int32) (o : Int32 × Int32 × Int32 × Int32 × Int32 × Int32) : Option Value → va_W → Prop := fun r w => r = none ∧ w = C_X6_readLaw K a a_letters b1 b1_berths b1_pitch b1_loud b1_depth b1_from b1_to b1_mate s_a_length o.1 o.2.1 o.2.2.1 o.2.2.2.1 o.2.2.2.2.1 f_a_letters s_b1_cars s_b1_sleepers s_b1_couples o.2.2.2.2.2
noncomputable def B_X6_readLaw_53 (N : Nat) (s_a_length : Int32) (f_a_letters : Nat → Int32) (k17 : Int32 → Int32 → Int32 → Int32 → Int32 → Int32 → Int32 → Int32 → Int32 → Option (Int32 × Int32 × Int32 × Int32 × Int32 × Int32)) (s_a_faultPlace : Int32) (s_a_fault : Int32) (s_a_place : Int32) (s_a_numberPlace : Int32) (s_a_isLawTold : Int32) (s_b1_law : Int32) (x4 : Int32) (x5 : Int32) : Option (Int32 × Int32 × Int32 × Int32 × Int32 × Int32) := nm (s_b1_law ||| ((1 : Int32) <<< (x5 &&& 31))) (fun v2 => bnd (F_X6_readComma N s_a_length s_a_faultPlace s_a_fault s_a_place f_a_letters (1 : Int32)) (fun o3 => nm (x4 + (1 : Int32)) (fun v4 => k17 o3.2.1 o3.2.2.1 o3.2.2.2 s_a_numberPlace s_a_isLawTold v2 x5 o3.1 v4)))
set_option maxHeartbeats 4000000 in
theorem G_X6_readLaw_53 {K : gK} {X : gX} {wi : va_W} {o : Int32 × Int32 × Int32 × Int32 × Int32 × Int32} (N : Nat) (s_a_length : Int32) (f_a_letters : Nat → Int32) (a : Nat) (a_letters : Nat) (b1 : Nat) (b1_berths : Nat) (b1_pitch : Nat) (b1_loud : Nat) (b1_depth : Nat) (b1_from : Nat) (b1_to : Nat) (b1_mate : Nat) (s_b1_cars : Int32) (s_b1_sleepers : Int32) (s_b1_couples : Int32) (hR : gR K X M_X6_readLaw wi (O_X6_readLaw K a a_letters b1 b1_berths b1_pitch b1_loud b1_depth b1_from b1_to b1_mate s_b1_cars s_b1_sleepers s_b1_couples s_a_length f_a_letters o)) (k17 : Int32 → Int32 → Int32 → Int32 → Int32 → Int32 → Int32 → Int32 → Int32 → Option (Int32 × Int32 × Int32 × Int32 × Int32 × Int32)) (hk17 : ∀ (s_a_faultPlace : Int32) (s_a_fault : Int32) (s_a_place : Int32) (s_a_numberPlace : Int32) (s_a_isLawTold : Int32) (s_b1_law : Int32) (x2 : Int32) (x3 : Int32) (x4 : Int32), k17 s_a_faultPlace s_a_fault s_a_place s_a_numberPlace s_a_isLawTold s_b1_law x2 x3 x4 = some o → Go K X M_X6_readLaw 0 0 (C_X6_readLaw K a a_letters b1 b1_berths b1_pitch b1_loud b1_depth b1_from b1_to b1_mate s_a_length s_a_faultPlace s_a_fault s_a_place s_a_numberPlace s_a_isLawTold f_a_letters s_b1_cars s_b1_sleepers s_b1_couples s_b1_law) [(0, .ref a), (1, .ref b1), (2, .int x2), (3, .int x3), (4, .int x4)] 17 []) (s_a_faultPlace : Int32) (s_a_fault : Int32) (s_a_place : Int32) (s_a_numberPlace : Int32) (s_a_isLawTold : Int32) (s_b1_law : Int32) (x4 : Int32) (x5 : Int32) (hF : B_X6_readLaw_53 N s_a_length f_a_letters k17 s_a_faultPlace s_a_fault s_a_place s_a_numberPlace s_a_isLawTold s_b1_law x4 x5 = some o) : Go K X M_X6_readLaw 0 0 (C_X6_readLaw K a a_letters b1 b1_berths b1_pitch b1_loud b1_depth b1_from b1_to b1_mate s_a_length s_a_faultPlace s_a_fault s_a_place s_a_numberPlace s_a_isLawTold f_a_letters s_b1_cars s_b1_sleepers s_b1_couples s_b1_law) [(0, .ref a), (1, .ref b1), (4, .int x4), (5, .int x5)] 53 [] := by
  unfold B_X6_readLaw_53 at hF
  refine go_aload_n 1 dX6_readLaw_53 rfl rfl ?_
  refine go_dup dX6_readLaw_54 rfl ?_
  refine go_get 7 2 3 hcX7 inX7 (Nat.le_of_ble_eq_true rfl) wd145 rfl rfl dX6_readLaw_55 ?_
  refine go_iconst (v := (1 : Int32)) dX6_readLaw_58 (by decide) ?_
  refine go_iload 3 dX6_readLaw_59 rfl ?_
  refine go_ishl dX6_readLaw_61 ?_
  refine go_ior dX6_readLaw_62 ?_
  refine go_nmi hF (fun v2 hF => ?_)
  refine go_put 7 2 3 (C_X6_readLaw K a a_letters b1 b1_berths b1_pitch b1_loud b1_depth b1_from b1_to b1_mate s_a_length s_a_faultPlace s_a_fault s_a_place s_a_numberPlace s_a_isLawTold f_a_letters s_b1_cars s_b1_sleepers s_b1_couples v2) hcX7 inX7 tyX7_ok nmX7 (Nat.le_of_ble_eq_true rfl) wd145 rfl rfl rfl rfl (Nat.le_of_ble_eq_true rfl) rfl dX6_readLaw_63 ?_
  refine go_iload 3 dX6_readLaw_66 rfl ?_
  refine go_istore_n [(2, .int x5), (0, .ref a), (1, .ref b1), (4, .int x4), (5, .int x5)] dX6_readLaw_68 rfl (Nat.le_of_ble_eq_true rfl) rfl ?_
  refine go_aload_n 1 dX6_readLaw_69 rfl rfl ?_
  refine go_iconst (v := (1 : Int32)) dX6_readLaw_70 (by decide) ?_
  obtain ⟨o3, ho3, hF⟩ := bnd_elim hF
  refine go_callV (As := [.int (1 : Int32)]) (rest := []) (wr := [(b1, .inr (7, [.int s_b1_cars, .int s_b1_sleepers, .int s_b1_couples, .int v2, .ref b1_berths, .ref b1_pitch, .ref b1_loud, .ref b1_depth, .ref b1_from, .ref b1_to, .ref b1_mate]))]) 6 0 hcX6 rfl (kn_X6_readComma K N a a_letters s_a_numberPlace s_a_isLawTold s_a_length s_a_faultPlace s_a_fault s_a_place f_a_letters (1 : Int32) ho3) ok_X6_readComma ⟨Nat.le_of_ble_eq_true rfl, Nat.le_of_ble_eq_true rfl⟩ ⟨Nat.le_of_ble_eq_true rfl, Nat.le_of_ble_eq_true rfl⟩ wd458 rfl rfl (Nat.le_of_ble_eq_true rfl) dX6_readLaw_71 [0, 1] [2] rfl rfl rfl rfl (by decide) (fun r wo hO => ?_)
  obtain ⟨rfl, rfl⟩ := hO
  refine go_ws (ws' := C_X6_readLaw K a a_letters b1 b1_berths b1_pitch b1_loud b1_depth b1_from b1_to b1_mate s_a_length o3.2.1 o3.2.2.1 o3.2.2.2 s_a_numberPlace s_a_isLawTold f_a_letters s_b1_cars s_b1_sleepers s_b1_couples v2) [1, 2, 0] rfl rfl ?_
  refine go_eq (pc' := 74) (st' := [.int o3.1]) rfl rfl ?_
  refine go_istore_n [(3, .int o3.1), (2, .int x5), (0, .ref a), (1, .ref b1), (4, .int x4), (5, .int x5)] dX6_readLaw_74 rfl (Nat.le_of_ble_eq_true rfl) rfl ?_
  refine go_iinc 4 (fun y => [(4, .int y), (3, .int o3.1), (2, .int x5), (0, .ref a), (1, .ref b1), (5, .int x5)]) hF dX6_readLaw_75 rfl rfl (Nat.le_of_ble_eq_true rfl) (fun _ => rfl) (fun v4 hF => ?_)
  refine go_goto 17 dX6_readLaw_78 (by decide) ?_
  refine go_loc (L' := [(0, .ref a), (1, .ref b1), (2, .int x5), (3, .int o3.1), (4, .int v4)]) [3, 4, 2, 1, 0] rfl ?_
  exact hk17 o3.2.1 o3.2.2.1 o3.2.2.2 s_a_numberPlace s_a_isLawTold v2 x5 o3.1 v4 hF
noncomputable def B_X6_readLaw_17 (N : Nat) (s_a_length : Int32) (f_a_letters : Nat → Int32) (k17 : Int32 → Int32 → Int32 → Int32 → Int32 → Int32 → Int32 → Int32 → Int32 → Option (Int32 × Int32 × Int32 × Int32 × Int32 × Int32)) (s_a_faultPlace : Int32) (s_a_fault : Int32) (s_a_place : Int32) (s_a_numberPlace : Int32) (s_a_isLawTold : Int32) (s_b1_law : Int32) (x2 : Int32) (x3 : Int32) (x4 : Int32) : Option (Int32 × Int32 × Int32 × Int32 × Int32 × Int32) := if (240 : Int32) ≤ x4 then some (s_a_faultPlace, s_a_fault, s_a_place, s_a_numberPlace, s_a_isLawTold, s_b1_law) else if x3 = 0 then some (s_a_faultPlace, s_a_fault, s_a_place, s_a_numberPlace, s_a_isLawTold, s_b1_law) else bnd (F_X6_readNumber N s_a_length s_a_faultPlace s_a_fault s_a_place s_a_numberPlace f_a_letters (0 : Int32) (6 : Int32)) (fun o1 => if x2 < o1.1 then B_X6_readLaw_53 N s_a_length f_a_letters k17 o1.2.1 o1.2.2.1 o1.2.2.2.1 o1.2.2.2.2 s_a_isLawTold s_b1_law x4 o1.1 else bnd (F_X6_fail o1.2.1 o1.2.2.1 (4 : Int32) o1.2.2.2.2) (fun o5 => B_X6_readLaw_53 N s_a_length f_a_letters k17 o5.1 o5.2 o1.2.2.2.1 o1.2.2.2.2 s_a_isLawTold s_b1_law x4 o1.1))
noncomputable def F_X6_readLaw_17 (N : Nat) (s_a_length : Int32) (f_a_letters : Nat → Int32)  : Nat → Int32 → Int32 → Int32 → Int32 → Int32 → Int32 → Int32 → Int32 → Int32 → Option (Int32 × Int32 × Int32 × Int32 × Int32 × Int32) := lq9 (fun self => B_X6_readLaw_17 N s_a_length f_a_letters  self)
set_option maxHeartbeats 4000000 in
theorem G_X6_readLaw_17 {K : gK} {X : gX} {wi : va_W} {o : Int32 × Int32 × Int32 × Int32 × Int32 × Int32} (N : Nat) (s_a_length : Int32) (f_a_letters : Nat → Int32) (a : Nat) (a_letters : Nat) (b1 : Nat) (b1_berths : Nat) (b1_pitch : Nat) (b1_loud : Nat) (b1_depth : Nat) (b1_from : Nat) (b1_to : Nat) (b1_mate : Nat) (s_b1_cars : Int32) (s_b1_sleepers : Int32) (s_b1_couples : Int32) (hR : gR K X M_X6_readLaw wi (O_X6_readLaw K a a_letters b1 b1_berths b1_pitch b1_loud b1_depth b1_from b1_to b1_mate s_b1_cars s_b1_sleepers s_b1_couples s_a_length f_a_letters o)) (k17 : Int32 → Int32 → Int32 → Int32 → Int32 → Int32 → Int32 → Int32 → Int32 → Option (Int32 × Int32 × Int32 × Int32 × Int32 × Int32)) (hk17 : ∀ (s_a_faultPlace : Int32) (s_a_fault : Int32) (s_a_place : Int32) (s_a_numberPlace : Int32) (s_a_isLawTold : Int32) (s_b1_law : Int32) (x2 : Int32) (x3 : Int32) (x4 : Int32), k17 s_a_faultPlace s_a_fault s_a_place s_a_numberPlace s_a_isLawTold s_b1_law x2 x3 x4 = some o → Go K X M_X6_readLaw 0 0 (C_X6_readLaw K a a_letters b1 b1_berths b1_pitch b1_loud b1_depth b1_from b1_to b1_mate s_a_length s_a_faultPlace s_a_fault s_a_place s_a_numberPlace s_a_isLawTold f_a_letters s_b1_cars s_b1_sleepers s_b1_couples s_b1_law) [(0, .ref a), (1, .ref b1), (2, .int x2), (3, .int x3), (4, .int x4)] 17 []) (s_a_faultPlace : Int32) (s_a_fault : Int32) (s_a_place : Int32) (s_a_numberPlace : Int32) (s_a_isLawTold : Int32) (s_b1_law : Int32) (x2 : Int32) (x3 : Int32) (x4 : Int32) (hF : B_X6_readLaw_17 N s_a_length f_a_letters k17 s_a_faultPlace s_a_fault s_a_place s_a_numberPlace s_a_isLawTold s_b1_law x2 x3 x4 = some o) : Go K X M_X6_readLaw 0 0 (C_X6_readLaw K a a_letters b1 b1_berths b1_pitch b1_loud b1_depth b1_from b1_to b1_mate s_a_length s_a_faultPlace s_a_fault s_a_place s_a_numberPlace s_a_isLawTold f_a_letters s_b1_cars s_b1_sleepers s_b1_couples s_b1_law) [(0, .ref a), (1, .ref b1), (2, .int x2), (3, .int x3), (4, .int x4)] 17 [] := by
  unfold B_X6_readLaw_17 at hF
  refine go_iload 4 dX6_readLaw_17 rfl ?_
  refine go_sipush (v := (240 : Int32)) dX6_readLaw_19 (by decide) ?_
  refine go_icmp_ge 81 hF dX6_readLaw_22 (by decide) (fun hF => ?_) (fun hF => ?_)
  · exact go_vret (Om := O_X6_readLaw K a a_letters b1 b1_berths b1_pitch b1_loud b1_depth b1_from b1_to b1_mate s_b1_cars s_b1_sleepers s_b1_couples s_a_length f_a_letters) hR hF dX6_readLaw_81 rfl (Nat.zero_le _) (Nat.zero_le _) ⟨rfl, rfl⟩
  · refine go_iload_n 3 dX6_readLaw_25 rfl rfl ?_
    refine go_if_eq 81 hF dX6_readLaw_26 (by decide) (fun hF => ?_) (fun hF => ?_)
    · exact go_vret (Om := O_X6_readLaw K a a_letters b1 b1_berths b1_pitch b1_loud b1_depth b1_from b1_to b1_mate s_b1_cars s_b1_sleepers s_b1_couples s_a_length f_a_letters) hR hF dX6_readLaw_81 rfl (Nat.zero_le _) (Nat.zero_le _) ⟨rfl, rfl⟩
    · refine go_aload_n 0 dX6_readLaw_29 rfl rfl ?_
      refine go_iconst (v := (0 : Int32)) dX6_readLaw_30 (by decide) ?_
      refine go_bipush (v := (6 : Int32)) dX6_readLaw_31 (by decide) ?_
      obtain ⟨o1, ho1, hF⟩ := bnd_elim hF
      refine go_callV (As := [.int (0 : Int32), .int (6 : Int32)]) (rest := []) (wr := [(b1, .inr (7, [.int s_b1_cars, .int s_b1_sleepers, .int s_b1_couples, .int s_b1_law, .ref b1_berths, .ref b1_pitch, .ref b1_loud, .ref b1_depth, .ref b1_from, .ref b1_to, .ref b1_mate]))]) 6 0 hcX6 rfl (kn_X6_readNumber K N a a_letters s_a_isLawTold s_a_length s_a_faultPlace s_a_fault s_a_place s_a_numberPlace f_a_letters (0 : Int32) (6 : Int32) ho1) ok_X6_readNumber ⟨Nat.le_of_ble_eq_true rfl, Nat.le_of_ble_eq_true rfl⟩ ⟨Nat.le_of_ble_eq_true rfl, Nat.le_of_ble_eq_true rfl⟩ wd451 rfl rfl (Nat.le_of_ble_eq_true rfl) dX6_readLaw_33 [0, 1] [2] rfl rfl rfl rfl (by decide) (fun r wo hO => ?_)
      obtain ⟨rfl, rfl⟩ := hO
      refine go_ws (ws' := C_X6_readLaw K a a_letters b1 b1_berths b1_pitch b1_loud b1_depth b1_from b1_to b1_mate s_a_length o1.2.1 o1.2.2.1 o1.2.2.2.1 o1.2.2.2.2 s_a_isLawTold f_a_letters s_b1_cars s_b1_sleepers s_b1_couples s_b1_law) [1, 2, 0] rfl rfl ?_
      refine go_eq (pc' := 36) (st' := [.int o1.1]) rfl rfl ?_
      refine go_istore [(5, .int o1.1), (0, .ref a), (1, .ref b1), (2, .int x2), (3, .int x3), (4, .int x4)] dX6_readLaw_36 (Nat.le_of_ble_eq_true rfl) rfl ?_
      refine go_iload 0 dX6_readLaw_38 rfl ?_
      refine go_iload_n 3 dX6_readLaw_40 rfl rfl ?_
      refine go_icmp_gt 53 hF dX6_readLaw_41 (by decide) (fun hF => ?_) (fun hF => ?_)
      · refine go_loc (L' := [(0, .ref a), (1, .ref b1), (4, .int x4), (5, .int o1.1)]) [1, 2, 5, 0] rfl ?_
        exact G_X6_readLaw_53 N s_a_length f_a_letters a a_letters b1 b1_berths b1_pitch b1_loud b1_depth b1_from b1_to b1_mate s_b1_cars s_b1_sleepers s_b1_couples hR k17 hk17 o1.2.1 o1.2.2.1 o1.2.2.2.1 o1.2.2.2.2 s_a_isLawTold s_b1_law x4 o1.1 hF
      · refine go_aload_n 1 dX6_readLaw_44 rfl rfl ?_
        refine go_iconst (v := (4 : Int32)) dX6_readLaw_45 (by decide) ?_
        refine go_aload_n 1 dX6_readLaw_46 rfl rfl ?_
        refine go_get 6 0 5 hcX6 inX6 (Nat.le_of_ble_eq_true rfl) wd98 rfl rfl dX6_readLaw_47 ?_
        obtain ⟨o5, ho5, hF⟩ := bnd_elim hF
        refine go_callV (As := [.int (4 : Int32), .int o1.2.2.2.2]) (rest := []) (wr := [(a_letters, .inl (kI K, 240, .inl f_a_letters)), (b1, .inr (7, [.int s_b1_cars, .int s_b1_sleepers, .int s_b1_couples, .int s_b1_law, .ref b1_berths, .ref b1_pitch, .ref b1_loud, .ref b1_depth, .ref b1_from, .ref b1_to, .ref b1_mate]))]) 6 0 hcX6 rfl (kn_X6_fail K a a_letters s_a_length o1.2.2.2.1 o1.2.2.2.2 s_a_isLawTold o1.2.1 o1.2.2.1 (4 : Int32) o1.2.2.2.2 ho5) ok_X6_fail ⟨Nat.le_of_ble_eq_true rfl, Nat.le_of_ble_eq_true rfl⟩ ⟨Nat.le_of_ble_eq_true rfl, Nat.le_of_ble_eq_true rfl⟩ wd443 rfl rfl (Nat.le_of_ble_eq_true rfl) dX6_readLaw_50 [0] [1, 2] rfl rfl rfl rfl (by decide) (fun r wo hO => ?_)
        obtain ⟨rfl, rfl⟩ := hO
        refine go_ws (ws' := C_X6_readLaw K a a_letters b1 b1_berths b1_pitch b1_loud b1_depth b1_from b1_to b1_mate s_a_length o5.1 o5.2 o1.2.2.2.1 o1.2.2.2.2 s_a_isLawTold f_a_letters s_b1_cars s_b1_sleepers s_b1_couples s_b1_law) [2, 0, 1] rfl rfl ?_
        refine go_eq (pc' := 53) (st' := []) rfl rfl ?_
        refine go_loc (L' := [(0, .ref a), (1, .ref b1), (4, .int x4), (5, .int o1.1)]) [1, 2, 5, 0] rfl ?_
        exact G_X6_readLaw_53 N s_a_length f_a_letters a a_letters b1 b1_berths b1_pitch b1_loud b1_depth b1_from b1_to b1_mate s_b1_cars s_b1_sleepers s_b1_couples hR k17 hk17 o5.1 o5.2 o1.2.2.2.1 o1.2.2.2.2 s_a_isLawTold s_b1_law x4 o1.1 hF
theorem GL_X6_readLaw_17 {K : gK} {X : gX} {wi : va_W} {o : Int32 × Int32 × Int32 × Int32 × Int32 × Int32} (N : Nat) (s_a_length : Int32) (f_a_letters : Nat → Int32) (a : Nat) (a_letters : Nat) (b1 : Nat) (b1_berths : Nat) (b1_pitch : Nat) (b1_loud : Nat) (b1_depth : Nat) (b1_from : Nat) (b1_to : Nat) (b1_mate : Nat) (s_b1_cars : Int32) (s_b1_sleepers : Int32) (s_b1_couples : Int32) (hR : gR K X M_X6_readLaw wi (O_X6_readLaw K a a_letters b1 b1_berths b1_pitch b1_loud b1_depth b1_from b1_to b1_mate s_b1_cars s_b1_sleepers s_b1_couples s_a_length f_a_letters o))  : ∀ (fuel : Nat) (s_a_faultPlace : Int32) (s_a_fault : Int32) (s_a_place : Int32) (s_a_numberPlace : Int32) (s_a_isLawTold : Int32) (s_b1_law : Int32) (x2 : Int32) (x3 : Int32) (x4 : Int32), F_X6_readLaw_17 N s_a_length f_a_letters  fuel s_a_faultPlace s_a_fault s_a_place s_a_numberPlace s_a_isLawTold s_b1_law x2 x3 x4 = some o → Go K X M_X6_readLaw 0 0 (C_X6_readLaw K a a_letters b1 b1_berths b1_pitch b1_loud b1_depth b1_from b1_to b1_mate s_a_length s_a_faultPlace s_a_fault s_a_place s_a_numberPlace s_a_isLawTold f_a_letters s_b1_cars s_b1_sleepers s_b1_couples s_b1_law) [(0, .ref a), (1, .ref b1), (2, .int x2), (3, .int x3), (4, .int x4)] 17 [] :=
  lq9_elim (fun self hs s_a_faultPlace s_a_fault s_a_place s_a_numberPlace s_a_isLawTold s_b1_law x2 x3 x4 hF => G_X6_readLaw_17 N s_a_length f_a_letters a a_letters b1 b1_berths b1_pitch b1_loud b1_depth b1_from b1_to b1_mate s_b1_cars s_b1_sleepers s_b1_couples hR  self hs s_a_faultPlace s_a_fault s_a_place s_a_numberPlace s_a_isLawTold s_b1_law x2 x3 x4 hF)
noncomputable def F_X6_readLaw (N : Nat) (s_a_length : Int32) (s_a_faultPlace : Int32) (s_a_fault : Int32) (s_a_place : Int32) (s_a_numberPlace : Int32) (s_a_isLawTold : Int32) (f_a_letters : Nat → Int32) (s_b1_law : Int32) : Option (Int32 × Int32 × Int32 × Int32 × Int32 × Int32) := F_X6_readLaw_17 N s_a_length f_a_letters N s_a_faultPlace s_a_fault s_a_place s_a_numberPlace (1 : Int32) (0 : Int32) (-1 : Int32) (1 : Int32) (0 : Int32)
set_option maxHeartbeats 4000000 in
theorem kn_X6_readLaw (K : gK) (N : Nat) (a : Nat) (a_letters : Nat) (b1 : Nat) (b1_berths : Nat) (b1_pitch : Nat) (b1_loud : Nat) (b1_depth : Nat) (b1_from : Nat) (b1_to : Nat) (b1_mate : Nat) (s_b1_cars : Int32) (s_b1_sleepers : Int32) (s_b1_couples : Int32) (s_a_length : Int32) (s_a_faultPlace : Int32) (s_a_fault : Int32) (s_a_place : Int32) (s_a_numberPlace : Int32) (s_a_isLawTold : Int32) (f_a_letters : Nat → Int32) (s_b1_law : Int32) {o : Int32 × Int32 × Int32 × Int32 × Int32 × Int32} (hF : F_X6_readLaw N s_a_length s_a_faultPlace s_a_fault s_a_place s_a_numberPlace s_a_isLawTold f_a_letters s_b1_law = some o) : Kn K M_X6_readLaw [.ref a, .ref b1] (C_X6_readLaw K a a_letters b1 b1_berths b1_pitch b1_loud b1_depth b1_from b1_to b1_mate s_a_length s_a_faultPlace s_a_fault s_a_place s_a_numberPlace s_a_isLawTold f_a_letters s_b1_cars s_b1_sleepers s_b1_couples s_b1_law) (O_X6_readLaw K a a_letters b1 b1_berths b1_pitch b1_loud b1_depth b1_from b1_to b1_mate s_b1_cars s_b1_sleepers s_b1_couples s_a_length f_a_letters o) := by
  refine kn_of (by decide +kernel) (Nat.le_of_ble_eq_true rfl) (fun X hR => ?_)
  refine go_loc (L' := [(0, .ref a), (1, .ref b1)]) [0, 1] rfl ?_
  unfold F_X6_readLaw at hF
  refine go_aload_n 0 dX6_readLaw_0 rfl rfl ?_
  refine go_iconst (v := (1 : Int32)) dX6_readLaw_1 (by decide) ?_
  refine go_put 6 0 6 (C_X6_readLaw K a a_letters b1 b1_berths b1_pitch b1_loud b1_depth b1_from b1_to b1_mate s_a_length s_a_faultPlace s_a_fault s_a_place s_a_numberPlace (1 : Int32) f_a_letters s_b1_cars s_b1_sleepers s_b1_couples s_b1_law) hcX6 inX6 tyX6_ok nmX6 (Nat.le_of_ble_eq_true rfl) wd99 rfl rfl rfl rfl (Nat.le_of_ble_eq_true rfl) rfl dX6_readLaw_2 ?_
  refine go_aload_n 1 dX6_readLaw_5 rfl rfl ?_
  refine go_iconst (v := (0 : Int32)) dX6_readLaw_6 (by decide) ?_
  refine go_put 7 2 3 (C_X6_readLaw K a a_letters b1 b1_berths b1_pitch b1_loud b1_depth b1_from b1_to b1_mate s_a_length s_a_faultPlace s_a_fault s_a_place s_a_numberPlace (1 : Int32) f_a_letters s_b1_cars s_b1_sleepers s_b1_couples (0 : Int32)) hcX7 inX7 tyX7_ok nmX7 (Nat.le_of_ble_eq_true rfl) wd145 rfl rfl rfl rfl (Nat.le_of_ble_eq_true rfl) rfl dX6_readLaw_7 ?_
  refine go_iconst (v := (-1 : Int32)) dX6_readLaw_10 (by decide) ?_
  refine go_istore_n [(2, .int (-1 : Int32)), (0, .ref a), (1, .ref b1)] dX6_readLaw_11 rfl (Nat.le_of_ble_eq_true rfl) rfl ?_
  refine go_iconst (v := (1 : Int32)) dX6_readLaw_12 (by decide) ?_
  refine go_istore_n [(3, .int (1 : Int32)), (2, .int (-1 : Int32)), (0, .ref a), (1, .ref b1)] dX6_readLaw_13 rfl (Nat.le_of_ble_eq_true rfl) rfl ?_
  refine go_iconst (v := (0 : Int32)) dX6_readLaw_14 (by decide) ?_
  refine go_istore [(4, .int (0 : Int32)), (3, .int (1 : Int32)), (2, .int (-1 : Int32)), (0, .ref a), (1, .ref b1)] dX6_readLaw_15 (Nat.le_of_ble_eq_true rfl) rfl ?_
  refine go_loc (L' := [(0, .ref a), (1, .ref b1), (2, .int (-1 : Int32)), (3, .int (1 : Int32)), (4, .int (0 : Int32))]) [3, 4, 2, 1, 0] rfl ?_
  exact GL_X6_readLaw_17 N s_a_length f_a_letters a a_letters b1 b1_berths b1_pitch b1_loud b1_depth b1_from b1_to b1_mate s_b1_cars s_b1_sleepers s_b1_couples hR  N s_a_faultPlace s_a_fault s_a_place s_a_numberPlace (1 : Int32) (0 : Int32) (-1 : Int32) (1 : Int32) (0 : Int32) hF
theorem ok_X6_readLaw : gOkV M_X6_readLaw 1 := ⟨⟨wd469, wd65, by decide +kernel, by decide +kernel, by decide +kernel⟩, wd468, wd9⟩
def C_X6_readCouple (K : gK) (a : Nat) (a_letters : Nat) (b1 : Nat) (b1_mate : Nat) (b1_berths : Nat) (b1_pitch : Nat) (b1_loud : Nat) (b1_depth : Nat) (b1_from : Nat) (b1_to : Nat) (s_a_length : Int32) (s_a_faultPlace : Int32) (s_a_fault : Int32) (s_a_place : Int32) (s_a_numberPlace : Int32) (s_a_isLawTold : Int32) (f_a_letters : Nat → Int32) (s_b1_cars : Int32) (s_b1_sleepers : Int32) (s_b1_couples : Int32) (s_b1_law : Int32) (f_b1_mate : Nat → Int32) : va_W := [(a, .inr (6, [.ref a_letters, .int s_a_length, .int s_a_faultPlace, .int s_a_fault, .int s_a_place, .int s_a_numberPlace, .int s_a_isLawTold])), (a_letters, .inl (kI K, 240, .inl f_a_letters)), (b1, .inr (7, [.int s_b1_cars, .int s_b1_sleepers, .int s_b1_couples, .int s_b1_law, .ref b1_berths, .ref b1_pitch, .ref b1_loud, .ref b1_depth, .ref b1_from, .ref b1_to, .ref b1_mate])), (b1_mate, .inl (kI K, 8, .inl f_b1_mate))]
def M_X6_readCouple : gM := (yX6_readCouple, cX6_readCouple, 4, none, { frames := 3, cells := 0, slots := 0, locals := 65 })
def O_X6_readCouple (K : gK) (a : Nat) (a_letters : Nat) (b1 : Nat) (b1_mate : Nat) (b1_berths : Nat) (b1_pitch : Nat) (b1_loud : Nat) (b1_depth : Nat) (b1_from : Nat) (b1_to : Nat) (s_a_isLawTold : Int32) (s_b1_cars : Int32) (s_b1_law : Int32) (s_a_length : Int32) (f_a_letters : Nat → Int32) (s_b1_sleepers : Int32) (o : Int32 × Int32 × Int32 × Int32 × Int32 × (Nat → Int32)) : Option Value → va_W → Prop := fun r w => r = none ∧ w = C_X6_readCouple K a a_letters b1 b1_mate b1_berths b1_pitch b1_loud b1_depth b1_from b1_to s_a_length o.1 o.2.1 o.2.2.1 o.2.2.2.1 s_a_isLawTold f_a_letters s_b1_cars s_b1_sleepers o.2.2.2.2.1 s_b1_law o.2.2.2.2.2
noncomputable def B_X6_readCouple_71 (N : Nat) (s_a_length : Int32) (f_a_letters : Nat → Int32) (s_b1_sleepers : Int32)  (s_a_faultPlace : Int32) (s_a_fault : Int32) (s_a_place : Int32) (s_a_numberPlace : Int32) (s_b1_couples : Int32) (f_b1_mate : Nat → Int32) (x2 : Int32) (x3 : Int32) : Option (Int32 × Int32 × Int32 × Int32 × Int32 × (Nat → Int32)) := bnd (F_X8_lay 8 f_b1_mate x2 x3) (fun o5 => bnd (F_X8_lay 8 o5 x3 x2) (fun o6 => nm (s_b1_couples + (1 : Int32)) (fun v7 => bnd (F_X6_readComma N s_a_length s_a_faultPlace s_a_fault s_a_place f_a_letters (0 : Int32)) (fun o8 => some (o8.2.1, o8.2.2.1, o8.2.2.2, s_a_numberPlace, v7, o6)))))
set_option maxHeartbeats 4000000 in
theorem G_X6_readCouple_71 {K : gK} {X : gX} {wi : va_W} {o : Int32 × Int32 × Int32 × Int32 × Int32 × (Nat → Int32)} (N : Nat) (s_a_length : Int32) (f_a_letters : Nat → Int32) (s_b1_sleepers : Int32) (a : Nat) (a_letters : Nat) (b1 : Nat) (b1_mate : Nat) (b1_berths : Nat) (b1_pitch : Nat) (b1_loud : Nat) (b1_depth : Nat) (b1_from : Nat) (b1_to : Nat) (s_a_isLawTold : Int32) (s_b1_cars : Int32) (s_b1_law : Int32) (hR : gR K X M_X6_readCouple wi (O_X6_readCouple K a a_letters b1 b1_mate b1_berths b1_pitch b1_loud b1_depth b1_from b1_to s_a_isLawTold s_b1_cars s_b1_law s_a_length f_a_letters s_b1_sleepers o))  (s_a_faultPlace : Int32) (s_a_fault : Int32) (s_a_place : Int32) (s_a_numberPlace : Int32) (s_b1_couples : Int32) (f_b1_mate : Nat → Int32) (x2 : Int32) (x3 : Int32) (hF : B_X6_readCouple_71 N s_a_length f_a_letters s_b1_sleepers  s_a_faultPlace s_a_fault s_a_place s_a_numberPlace s_b1_couples f_b1_mate x2 x3 = some o) : Go K X M_X6_readCouple 0 0 (C_X6_readCouple K a a_letters b1 b1_mate b1_berths b1_pitch b1_loud b1_depth b1_from b1_to s_a_length s_a_faultPlace s_a_fault s_a_place s_a_numberPlace s_a_isLawTold f_a_letters s_b1_cars s_b1_sleepers s_b1_couples s_b1_law f_b1_mate) [(0, .ref a), (1, .ref b1), (2, .int x2), (3, .int x3)] 71 [] := by
  unfold B_X6_readCouple_71 at hF
  refine go_aload_n 1 dX6_readCouple_71 rfl rfl ?_
  refine go_get 7 2 10 hcX7 inX7 (Nat.le_of_ble_eq_true rfl) wd173 rfl rfl dX6_readCouple_72 ?_
  refine go_iload_n 2 dX6_readCouple_75 rfl rfl ?_
  refine go_iload_n 3 dX6_readCouple_76 rfl rfl ?_
  obtain ⟨o5, ho5, hF⟩ := bnd_elim hF
  refine go_callSN (As := [.ref b1_mate, .int x2, .int x3]) (rest := []) (wr := [(a, .inr (6, [.ref a_letters, .int s_a_length, .int s_a_faultPlace, .int s_a_fault, .int s_a_place, .int s_a_numberPlace, .int s_a_isLawTold])), (a_letters, .inl (kI K, 240, .inl f_a_letters)), (b1, .inr (7, [.int s_b1_cars, .int s_b1_sleepers, .int s_b1_couples, .int s_b1_law, .ref b1_berths, .ref b1_pitch, .ref b1_loud, .ref b1_depth, .ref b1_from, .ref b1_to, .ref b1_mate]))]) (kn_X8_lay K b1_mate 8 f_b1_mate x2 x3 ho5) ok_X8_lay ⟨Nat.le_of_ble_eq_true rfl, Nat.le_of_ble_eq_true rfl⟩ ⟨Nat.le_of_ble_eq_true rfl, Nat.le_of_ble_eq_true rfl⟩ ns6 rfl rfl (Nat.le_of_ble_eq_true rfl) dX6_readCouple_77 [3] [0, 1, 2] rfl rfl rfl rfl (by decide) (fun r wo hO => ?_)
  obtain ⟨rfl, rfl⟩ := hO
  refine go_ws (ws' := C_X6_readCouple K a a_letters b1 b1_mate b1_berths b1_pitch b1_loud b1_depth b1_from b1_to s_a_length s_a_faultPlace s_a_fault s_a_place s_a_numberPlace s_a_isLawTold f_a_letters s_b1_cars s_b1_sleepers s_b1_couples s_b1_law o5) [0, 1, 2, 3] rfl rfl ?_
  refine go_eq (pc' := 80) (st' := []) rfl rfl ?_
  refine go_aload_n 1 dX6_readCouple_80 rfl rfl ?_
  refine go_get 7 2 10 hcX7 inX7 (Nat.le_of_ble_eq_true rfl) wd173 rfl rfl dX6_readCouple_81 ?_
  refine go_iload_n 3 dX6_readCouple_84 rfl rfl ?_
  refine go_iload_n 2 dX6_readCouple_85 rfl rfl ?_
  obtain ⟨o6, ho6, hF⟩ := bnd_elim hF
  refine go_callSN (As := [.ref b1_mate, .int x3, .int x2]) (rest := []) (wr := [(a, .inr (6, [.ref a_letters, .int s_a_length, .int s_a_faultPlace, .int s_a_fault, .int s_a_place, .int s_a_numberPlace, .int s_a_isLawTold])), (a_letters, .inl (kI K, 240, .inl f_a_letters)), (b1, .inr (7, [.int s_b1_cars, .int s_b1_sleepers, .int s_b1_couples, .int s_b1_law, .ref b1_berths, .ref b1_pitch, .ref b1_loud, .ref b1_depth, .ref b1_from, .ref b1_to, .ref b1_mate]))]) (kn_X8_lay K b1_mate 8 o5 x3 x2 ho6) ok_X8_lay ⟨Nat.le_of_ble_eq_true rfl, Nat.le_of_ble_eq_true rfl⟩ ⟨Nat.le_of_ble_eq_true rfl, Nat.le_of_ble_eq_true rfl⟩ ns6 rfl rfl (Nat.le_of_ble_eq_true rfl) dX6_readCouple_86 [3] [0, 1, 2] rfl rfl rfl rfl (by decide) (fun r wo hO => ?_)
  obtain ⟨rfl, rfl⟩ := hO
  refine go_ws (ws' := C_X6_readCouple K a a_letters b1 b1_mate b1_berths b1_pitch b1_loud b1_depth b1_from b1_to s_a_length s_a_faultPlace s_a_fault s_a_place s_a_numberPlace s_a_isLawTold f_a_letters s_b1_cars s_b1_sleepers s_b1_couples s_b1_law o6) [0, 1, 2, 3] rfl rfl ?_
  refine go_eq (pc' := 89) (st' := []) rfl rfl ?_
  refine go_aload_n 1 dX6_readCouple_89 rfl rfl ?_
  refine go_dup dX6_readCouple_90 rfl ?_
  refine go_get 7 2 2 hcX7 inX7 (Nat.le_of_ble_eq_true rfl) wd142 rfl rfl dX6_readCouple_91 ?_
  refine go_iconst (v := (1 : Int32)) dX6_readCouple_94 (by decide) ?_
  refine go_iadd dX6_readCouple_95 ?_
  refine go_nmi hF (fun v7 hF => ?_)
  refine go_put 7 2 2 (C_X6_readCouple K a a_letters b1 b1_mate b1_berths b1_pitch b1_loud b1_depth b1_from b1_to s_a_length s_a_faultPlace s_a_fault s_a_place s_a_numberPlace s_a_isLawTold f_a_letters s_b1_cars s_b1_sleepers v7 s_b1_law o6) hcX7 inX7 tyX7_ok nmX7 (Nat.le_of_ble_eq_true rfl) wd142 rfl rfl rfl rfl (Nat.le_of_ble_eq_true rfl) rfl dX6_readCouple_96 ?_
  refine go_aload_n 0 dX6_readCouple_99 rfl rfl ?_
  refine go_iconst (v := (0 : Int32)) dX6_readCouple_100 (by decide) ?_
  obtain ⟨o8, ho8, hF⟩ := bnd_elim hF
  refine go_callV (As := [.int (0 : Int32)]) (rest := []) (wr := [(b1, .inr (7, [.int s_b1_cars, .int s_b1_sleepers, .int v7, .int s_b1_law, .ref b1_berths, .ref b1_pitch, .ref b1_loud, .ref b1_depth, .ref b1_from, .ref b1_to, .ref b1_mate])), (b1_mate, .inl (kI K, 8, .inl o6))]) 6 0 hcX6 rfl (kn_X6_readComma K N a a_letters s_a_numberPlace s_a_isLawTold s_a_length s_a_faultPlace s_a_fault s_a_place f_a_letters (0 : Int32) ho8) ok_X6_readComma ⟨Nat.le_of_ble_eq_true rfl, Nat.le_of_ble_eq_true rfl⟩ ⟨Nat.le_of_ble_eq_true rfl, Nat.le_of_ble_eq_true rfl⟩ wd458 rfl rfl (Nat.le_of_ble_eq_true rfl) dX6_readCouple_101 [0, 1] [2, 3] rfl rfl rfl rfl (by decide) (fun r wo hO => ?_)
  obtain ⟨rfl, rfl⟩ := hO
  refine go_ws (ws' := C_X6_readCouple K a a_letters b1 b1_mate b1_berths b1_pitch b1_loud b1_depth b1_from b1_to s_a_length o8.2.1 o8.2.2.1 o8.2.2.2 s_a_numberPlace s_a_isLawTold f_a_letters s_b1_cars s_b1_sleepers v7 s_b1_law o6) [2, 3, 0, 1] rfl rfl ?_
  refine go_eq (pc' := 104) (st' := [.int o8.1]) rfl rfl ?_
  refine go_pop dX6_readCouple_104 rfl ?_
  exact go_vret (Om := O_X6_readCouple K a a_letters b1 b1_mate b1_berths b1_pitch b1_loud b1_depth b1_from b1_to s_a_isLawTold s_b1_cars s_b1_law s_a_length f_a_letters s_b1_sleepers) hR hF dX6_readCouple_105 rfl (Nat.zero_le _) (Nat.zero_le _) ⟨rfl, rfl⟩
noncomputable def B_X6_readCouple_62 (N : Nat) (s_a_length : Int32) (f_a_letters : Nat → Int32) (s_b1_sleepers : Int32)  (s_a_faultPlace : Int32) (s_a_fault : Int32) (s_a_place : Int32) (s_a_numberPlace : Int32) (s_b1_couples : Int32) (f_b1_mate : Nat → Int32) (x2 : Int32) (x3 : Int32) : Option (Int32 × Int32 × Int32 × Int32 × Int32 × (Nat → Int32)) := bnd (F_X6_fail s_a_faultPlace s_a_fault (4 : Int32) s_a_numberPlace) (fun o4 => B_X6_readCouple_71 N s_a_length f_a_letters s_b1_sleepers o4.1 o4.2 s_a_place s_a_numberPlace s_b1_couples f_b1_mate x2 x3)
set_option maxHeartbeats 4000000 in
theorem G_X6_readCouple_62 {K : gK} {X : gX} {wi : va_W} {o : Int32 × Int32 × Int32 × Int32 × Int32 × (Nat → Int32)} (N : Nat) (s_a_length : Int32) (f_a_letters : Nat → Int32) (s_b1_sleepers : Int32) (a : Nat) (a_letters : Nat) (b1 : Nat) (b1_mate : Nat) (b1_berths : Nat) (b1_pitch : Nat) (b1_loud : Nat) (b1_depth : Nat) (b1_from : Nat) (b1_to : Nat) (s_a_isLawTold : Int32) (s_b1_cars : Int32) (s_b1_law : Int32) (hR : gR K X M_X6_readCouple wi (O_X6_readCouple K a a_letters b1 b1_mate b1_berths b1_pitch b1_loud b1_depth b1_from b1_to s_a_isLawTold s_b1_cars s_b1_law s_a_length f_a_letters s_b1_sleepers o))  (s_a_faultPlace : Int32) (s_a_fault : Int32) (s_a_place : Int32) (s_a_numberPlace : Int32) (s_b1_couples : Int32) (f_b1_mate : Nat → Int32) (x2 : Int32) (x3 : Int32) (hF : B_X6_readCouple_62 N s_a_length f_a_letters s_b1_sleepers  s_a_faultPlace s_a_fault s_a_place s_a_numberPlace s_b1_couples f_b1_mate x2 x3 = some o) : Go K X M_X6_readCouple 0 0 (C_X6_readCouple K a a_letters b1 b1_mate b1_berths b1_pitch b1_loud b1_depth b1_from b1_to s_a_length s_a_faultPlace s_a_fault s_a_place s_a_numberPlace s_a_isLawTold f_a_letters s_b1_cars s_b1_sleepers s_b1_couples s_b1_law f_b1_mate) [(0, .ref a), (1, .ref b1), (2, .int x2), (3, .int x3)] 62 [] := by
  unfold B_X6_readCouple_62 at hF
  refine go_aload_n 0 dX6_readCouple_62 rfl rfl ?_
  refine go_iconst (v := (4 : Int32)) dX6_readCouple_63 (by decide) ?_
  refine go_aload_n 0 dX6_readCouple_64 rfl rfl ?_
  refine go_get 6 0 5 hcX6 inX6 (Nat.le_of_ble_eq_true rfl) wd98 rfl rfl dX6_readCouple_65 ?_
  obtain ⟨o4, ho4, hF⟩ := bnd_elim hF
  refine go_callV (As := [.int (4 : Int32), .int s_a_numberPlace]) (rest := []) (wr := [(a_letters, .inl (kI K, 240, .inl f_a_letters)), (b1, .inr (7, [.int s_b1_cars, .int s_b1_sleepers, .int s_b1_couples, .int s_b1_law, .ref b1_berths, .ref b1_pitch, .ref b1_loud, .ref b1_depth, .ref b1_from, .ref b1_to, .ref b1_mate])), (b1_mate, .inl (kI K, 8, .inl f_b1_mate))]) 6 0 hcX6 rfl (kn_X6_fail K a a_letters s_a_length s_a_place s_a_numberPlace s_a_isLawTold s_a_faultPlace s_a_fault (4 : Int32) s_a_numberPlace ho4) ok_X6_fail ⟨Nat.le_of_ble_eq_true rfl, Nat.le_of_ble_eq_true rfl⟩ ⟨Nat.le_of_ble_eq_true rfl, Nat.le_of_ble_eq_true rfl⟩ wd443 rfl rfl (Nat.le_of_ble_eq_true rfl) dX6_readCouple_68 [0] [1, 2, 3] rfl rfl rfl rfl (by decide) (fun r wo hO => ?_)
  obtain ⟨rfl, rfl⟩ := hO
  refine go_ws (ws' := C_X6_readCouple K a a_letters b1 b1_mate b1_berths b1_pitch b1_loud b1_depth b1_from b1_to s_a_length o4.1 o4.2 s_a_place s_a_numberPlace s_a_isLawTold f_a_letters s_b1_cars s_b1_sleepers s_b1_couples s_b1_law f_b1_mate) [3, 0, 1, 2] rfl rfl ?_
  refine go_eq (pc' := 71) (st' := []) rfl rfl ?_
  exact G_X6_readCouple_71 N s_a_length f_a_letters s_b1_sleepers a a_letters b1 b1_mate b1_berths b1_pitch b1_loud b1_depth b1_from b1_to s_a_isLawTold s_b1_cars s_b1_law hR  o4.1 o4.2 s_a_place s_a_numberPlace s_b1_couples f_b1_mate x2 x3 hF
noncomputable def B_X6_readCouple_33 (N : Nat) (s_a_length : Int32) (f_a_letters : Nat → Int32) (s_b1_sleepers : Int32)  (s_a_faultPlace : Int32) (s_a_fault : Int32) (s_a_place : Int32) (s_a_numberPlace : Int32) (s_b1_couples : Int32) (f_b1_mate : Nat → Int32) (x2 : Int32) : Option (Int32 × Int32 × Int32 × Int32 × Int32 × (Nat → Int32)) := bnd (F_X6_readNumber N s_a_length s_a_faultPlace s_a_fault s_a_place s_a_numberPlace f_a_letters (0 : Int32) (s_b1_sleepers - (1 : Int32))) (fun o3 => if o3.1 = x2 then B_X6_readCouple_62 N s_a_length f_a_letters s_b1_sleepers o3.2.1 o3.2.2.1 o3.2.2.2.1 o3.2.2.2.2 s_b1_couples f_b1_mate x2 o3.1 else bnd (F_X8_at 8 f_b1_mate o3.1) (fun o9 => if o9 = (-1 : Int32) then B_X6_readCouple_71 N s_a_length f_a_letters s_b1_sleepers o3.2.1 o3.2.2.1 o3.2.2.2.1 o3.2.2.2.2 s_b1_couples f_b1_mate x2 o3.1 else B_X6_readCouple_62 N s_a_length f_a_letters s_b1_sleepers o3.2.1 o3.2.2.1 o3.2.2.2.1 o3.2.2.2.2 s_b1_couples f_b1_mate x2 o3.1))
set_option maxHeartbeats 4000000 in
theorem G_X6_readCouple_33 {K : gK} {X : gX} {wi : va_W} {o : Int32 × Int32 × Int32 × Int32 × Int32 × (Nat → Int32)} (N : Nat) (s_a_length : Int32) (f_a_letters : Nat → Int32) (s_b1_sleepers : Int32) (a : Nat) (a_letters : Nat) (b1 : Nat) (b1_mate : Nat) (b1_berths : Nat) (b1_pitch : Nat) (b1_loud : Nat) (b1_depth : Nat) (b1_from : Nat) (b1_to : Nat) (s_a_isLawTold : Int32) (s_b1_cars : Int32) (s_b1_law : Int32) (hR : gR K X M_X6_readCouple wi (O_X6_readCouple K a a_letters b1 b1_mate b1_berths b1_pitch b1_loud b1_depth b1_from b1_to s_a_isLawTold s_b1_cars s_b1_law s_a_length f_a_letters s_b1_sleepers o))  (s_a_faultPlace : Int32) (s_a_fault : Int32) (s_a_place : Int32) (s_a_numberPlace : Int32) (s_b1_couples : Int32) (f_b1_mate : Nat → Int32) (x2 : Int32) (hF : B_X6_readCouple_33 N s_a_length f_a_letters s_b1_sleepers  s_a_faultPlace s_a_fault s_a_place s_a_numberPlace s_b1_couples f_b1_mate x2 = some o) : Go K X M_X6_readCouple 0 0 (C_X6_readCouple K a a_letters b1 b1_mate b1_berths b1_pitch b1_loud b1_depth b1_from b1_to s_a_length s_a_faultPlace s_a_fault s_a_place s_a_numberPlace s_a_isLawTold f_a_letters s_b1_cars s_b1_sleepers s_b1_couples s_b1_law f_b1_mate) [(0, .ref a), (1, .ref b1), (2, .int x2)] 33 [] := by
  unfold B_X6_readCouple_33 at hF
  refine go_aload_n 0 dX6_readCouple_33 rfl rfl ?_
  refine go_iconst (v := (0 : Int32)) dX6_readCouple_34 (by decide) ?_
  refine go_aload_n 1 dX6_readCouple_35 rfl rfl ?_
  refine go_get 7 2 1 hcX7 inX7 (Nat.le_of_ble_eq_true rfl) wd139 rfl rfl dX6_readCouple_36 ?_
  refine go_iconst (v := (1 : Int32)) dX6_readCouple_39 (by decide) ?_
  refine go_isub dX6_readCouple_40 ?_
  obtain ⟨o3, ho3, hF⟩ := bnd_elim hF
  refine go_callV (As := [.int (0 : Int32), .int (s_b1_sleepers - (1 : Int32))]) (rest := []) (wr := [(b1, .inr (7, [.int s_b1_cars, .int s_b1_sleepers, .int s_b1_couples, .int s_b1_law, .ref b1_berths, .ref b1_pitch, .ref b1_loud, .ref b1_depth, .ref b1_from, .ref b1_to, .ref b1_mate])), (b1_mate, .inl (kI K, 8, .inl f_b1_mate))]) 6 0 hcX6 rfl (kn_X6_readNumber K N a a_letters s_a_isLawTold s_a_length s_a_faultPlace s_a_fault s_a_place s_a_numberPlace f_a_letters (0 : Int32) (s_b1_sleepers - (1 : Int32)) ho3) ok_X6_readNumber ⟨Nat.le_of_ble_eq_true rfl, Nat.le_of_ble_eq_true rfl⟩ ⟨Nat.le_of_ble_eq_true rfl, Nat.le_of_ble_eq_true rfl⟩ wd451 rfl rfl (Nat.le_of_ble_eq_true rfl) dX6_readCouple_41 [0, 1] [2, 3] rfl rfl rfl rfl (by decide) (fun r wo hO => ?_)
  obtain ⟨rfl, rfl⟩ := hO
  refine go_ws (ws' := C_X6_readCouple K a a_letters b1 b1_mate b1_berths b1_pitch b1_loud b1_depth b1_from b1_to s_a_length o3.2.1 o3.2.2.1 o3.2.2.2.1 o3.2.2.2.2 s_a_isLawTold f_a_letters s_b1_cars s_b1_sleepers s_b1_couples s_b1_law f_b1_mate) [2, 3, 0, 1] rfl rfl ?_
  refine go_eq (pc' := 44) (st' := [.int o3.1]) rfl rfl ?_
  refine go_istore_n [(3, .int o3.1), (0, .ref a), (1, .ref b1), (2, .int x2)] dX6_readCouple_44 rfl (Nat.le_of_ble_eq_true rfl) rfl ?_
  refine go_iload_n 0 dX6_readCouple_45 rfl rfl ?_
  refine go_iload_n 3 dX6_readCouple_46 rfl rfl ?_
  refine go_icmp_eq 62 hF dX6_readCouple_47 (by decide) (fun hF => ?_) (fun hF => ?_)
  · refine go_loc (L' := [(0, .ref a), (1, .ref b1), (2, .int x2), (3, .int o3.1)]) [1, 2, 3, 0] rfl ?_
    exact G_X6_readCouple_62 N s_a_length f_a_letters s_b1_sleepers a a_letters b1 b1_mate b1_berths b1_pitch b1_loud b1_depth b1_from b1_to s_a_isLawTold s_b1_cars s_b1_law hR  o3.2.1 o3.2.2.1 o3.2.2.2.1 o3.2.2.2.2 s_b1_couples f_b1_mate x2 o3.1 hF
  · refine go_aload_n 2 dX6_readCouple_50 rfl rfl ?_
    refine go_get 7 2 10 hcX7 inX7 (Nat.le_of_ble_eq_true rfl) wd173 rfl rfl dX6_readCouple_51 ?_
    refine go_iload_n 0 dX6_readCouple_54 rfl rfl ?_
    obtain ⟨o9, ho9, hF⟩ := bnd_elim hF
    refine go_callSN (As := [.ref b1_mate, .int o3.1]) (rest := []) (wr := [(a, .inr (6, [.ref a_letters, .int s_a_length, .int o3.2.1, .int o3.2.2.1, .int o3.2.2.2.1, .int o3.2.2.2.2, .int s_a_isLawTold])), (a_letters, .inl (kI K, 240, .inl f_a_letters)), (b1, .inr (7, [.int s_b1_cars, .int s_b1_sleepers, .int s_b1_couples, .int s_b1_law, .ref b1_berths, .ref b1_pitch, .ref b1_loud, .ref b1_depth, .ref b1_from, .ref b1_to, .ref b1_mate]))]) (kn_X8_at K b1_mate 8 f_b1_mate o3.1 ho9) ok_X8_at ⟨Nat.le_of_ble_eq_true rfl, Nat.le_of_ble_eq_true rfl⟩ ⟨Nat.le_of_ble_eq_true rfl, Nat.le_of_ble_eq_true rfl⟩ ns7 rfl rfl (Nat.le_of_ble_eq_true rfl) dX6_readCouple_55 [3] [0, 1, 2] rfl rfl rfl rfl (by decide) (fun r wo hO => ?_)
    obtain ⟨rfl, rfl⟩ := hO
    refine go_ws (ws' := C_X6_readCouple K a a_letters b1 b1_mate b1_berths b1_pitch b1_loud b1_depth b1_from b1_to s_a_length o3.2.1 o3.2.2.1 o3.2.2.2.1 o3.2.2.2.2 s_a_isLawTold f_a_letters s_b1_cars s_b1_sleepers s_b1_couples s_b1_law f_b1_mate) [0, 1, 2, 3] rfl rfl ?_
    refine go_eq (pc' := 58) (st' := [.int o9]) rfl rfl ?_
    refine go_iconst (v := (-1 : Int32)) dX6_readCouple_58 (by decide) ?_
    refine go_icmp_eq 71 hF dX6_readCouple_59 (by decide) (fun hF => ?_) (fun hF => ?_)
    · refine go_loc (L' := [(0, .ref a), (1, .ref b1), (2, .int x2), (3, .int o3.1)]) [1, 2, 3, 0] rfl ?_
      exact G_X6_readCouple_71 N s_a_length f_a_letters s_b1_sleepers a a_letters b1 b1_mate b1_berths b1_pitch b1_loud b1_depth b1_from b1_to s_a_isLawTold s_b1_cars s_b1_law hR  o3.2.1 o3.2.2.1 o3.2.2.2.1 o3.2.2.2.2 s_b1_couples f_b1_mate x2 o3.1 hF
    · refine go_loc (L' := [(0, .ref a), (1, .ref b1), (2, .int x2), (3, .int o3.1)]) [1, 2, 3, 0] rfl ?_
      exact G_X6_readCouple_62 N s_a_length f_a_letters s_b1_sleepers a a_letters b1 b1_mate b1_berths b1_pitch b1_loud b1_depth b1_from b1_to s_a_isLawTold s_b1_cars s_b1_law hR  o3.2.1 o3.2.2.1 o3.2.2.2.1 o3.2.2.2.2 s_b1_couples f_b1_mate x2 o3.1 hF
noncomputable def F_X6_readCouple (N : Nat) (s_a_length : Int32) (s_a_faultPlace : Int32) (s_a_fault : Int32) (s_a_place : Int32) (s_a_numberPlace : Int32) (f_a_letters : Nat → Int32) (s_b1_sleepers : Int32) (s_b1_couples : Int32) (f_b1_mate : Nat → Int32) : Option (Int32 × Int32 × Int32 × Int32 × Int32 × (Nat → Int32)) := bnd (F_X6_readNumber N s_a_length s_a_faultPlace s_a_fault s_a_place s_a_numberPlace f_a_letters (0 : Int32) (s_b1_sleepers - (1 : Int32))) (fun o1 => bnd (F_X8_at 8 f_b1_mate o1.1) (fun o2 => if o2 = (-1 : Int32) then B_X6_readCouple_33 N s_a_length f_a_letters s_b1_sleepers o1.2.1 o1.2.2.1 o1.2.2.2.1 o1.2.2.2.2 s_b1_couples f_b1_mate o1.1 else bnd (F_X6_fail o1.2.1 o1.2.2.1 (4 : Int32) o1.2.2.2.2) (fun o10 => B_X6_readCouple_33 N s_a_length f_a_letters s_b1_sleepers o10.1 o10.2 o1.2.2.2.1 o1.2.2.2.2 s_b1_couples f_b1_mate o1.1)))
set_option maxHeartbeats 4000000 in
theorem kn_X6_readCouple (K : gK) (N : Nat) (a : Nat) (a_letters : Nat) (b1 : Nat) (b1_mate : Nat) (b1_berths : Nat) (b1_pitch : Nat) (b1_loud : Nat) (b1_depth : Nat) (b1_from : Nat) (b1_to : Nat) (s_a_isLawTold : Int32) (s_b1_cars : Int32) (s_b1_law : Int32) (s_a_length : Int32) (s_a_faultPlace : Int32) (s_a_fault : Int32) (s_a_place : Int32) (s_a_numberPlace : Int32) (f_a_letters : Nat → Int32) (s_b1_sleepers : Int32) (s_b1_couples : Int32) (f_b1_mate : Nat → Int32) {o : Int32 × Int32 × Int32 × Int32 × Int32 × (Nat → Int32)} (hF : F_X6_readCouple N s_a_length s_a_faultPlace s_a_fault s_a_place s_a_numberPlace f_a_letters s_b1_sleepers s_b1_couples f_b1_mate = some o) : Kn K M_X6_readCouple [.ref a, .ref b1] (C_X6_readCouple K a a_letters b1 b1_mate b1_berths b1_pitch b1_loud b1_depth b1_from b1_to s_a_length s_a_faultPlace s_a_fault s_a_place s_a_numberPlace s_a_isLawTold f_a_letters s_b1_cars s_b1_sleepers s_b1_couples s_b1_law f_b1_mate) (O_X6_readCouple K a a_letters b1 b1_mate b1_berths b1_pitch b1_loud b1_depth b1_from b1_to s_a_isLawTold s_b1_cars s_b1_law s_a_length f_a_letters s_b1_sleepers o) := by
  refine kn_of (by decide +kernel) (Nat.le_of_ble_eq_true rfl) (fun X hR => ?_)
  refine go_loc (L' := [(0, .ref a), (1, .ref b1)]) [0, 1] rfl ?_
  unfold F_X6_readCouple at hF
  refine go_aload_n 0 dX6_readCouple_0 rfl rfl ?_
  refine go_iconst (v := (0 : Int32)) dX6_readCouple_1 (by decide) ?_
  refine go_aload_n 1 dX6_readCouple_2 rfl rfl ?_
  refine go_get 7 2 1 hcX7 inX7 (Nat.le_of_ble_eq_true rfl) wd139 rfl rfl dX6_readCouple_3 ?_
  refine go_iconst (v := (1 : Int32)) dX6_readCouple_6 (by decide) ?_
  refine go_isub dX6_readCouple_7 ?_
  obtain ⟨o1, ho1, hF⟩ := bnd_elim hF
  refine go_callV (As := [.int (0 : Int32), .int (s_b1_sleepers - (1 : Int32))]) (rest := []) (wr := [(b1, .inr (7, [.int s_b1_cars, .int s_b1_sleepers, .int s_b1_couples, .int s_b1_law, .ref b1_berths, .ref b1_pitch, .ref b1_loud, .ref b1_depth, .ref b1_from, .ref b1_to, .ref b1_mate])), (b1_mate, .inl (kI K, 8, .inl f_b1_mate))]) 6 0 hcX6 rfl (kn_X6_readNumber K N a a_letters s_a_isLawTold s_a_length s_a_faultPlace s_a_fault s_a_place s_a_numberPlace f_a_letters (0 : Int32) (s_b1_sleepers - (1 : Int32)) ho1) ok_X6_readNumber ⟨Nat.le_of_ble_eq_true rfl, Nat.le_of_ble_eq_true rfl⟩ ⟨Nat.le_of_ble_eq_true rfl, Nat.le_of_ble_eq_true rfl⟩ wd451 rfl rfl (Nat.le_of_ble_eq_true rfl) dX6_readCouple_8 [0, 1] [2, 3] rfl rfl rfl rfl (by decide) (fun r wo hO => ?_)
  obtain ⟨rfl, rfl⟩ := hO
  refine go_ws (ws' := C_X6_readCouple K a a_letters b1 b1_mate b1_berths b1_pitch b1_loud b1_depth b1_from b1_to s_a_length o1.2.1 o1.2.2.1 o1.2.2.2.1 o1.2.2.2.2 s_a_isLawTold f_a_letters s_b1_cars s_b1_sleepers s_b1_couples s_b1_law f_b1_mate) [2, 3, 0, 1] rfl rfl ?_
  refine go_eq (pc' := 11) (st' := [.int o1.1]) rfl rfl ?_
  refine go_istore_n [(2, .int o1.1), (0, .ref a), (1, .ref b1)] dX6_readCouple_11 rfl (Nat.le_of_ble_eq_true rfl) rfl ?_
  refine go_aload_n 2 dX6_readCouple_12 rfl rfl ?_
  refine go_get 7 2 10 hcX7 inX7 (Nat.le_of_ble_eq_true rfl) wd173 rfl rfl dX6_readCouple_13 ?_
  refine go_iload_n 0 dX6_readCouple_16 rfl rfl ?_
  obtain ⟨o2, ho2, hF⟩ := bnd_elim hF
  refine go_callSN (As := [.ref b1_mate, .int o1.1]) (rest := []) (wr := [(a, .inr (6, [.ref a_letters, .int s_a_length, .int o1.2.1, .int o1.2.2.1, .int o1.2.2.2.1, .int o1.2.2.2.2, .int s_a_isLawTold])), (a_letters, .inl (kI K, 240, .inl f_a_letters)), (b1, .inr (7, [.int s_b1_cars, .int s_b1_sleepers, .int s_b1_couples, .int s_b1_law, .ref b1_berths, .ref b1_pitch, .ref b1_loud, .ref b1_depth, .ref b1_from, .ref b1_to, .ref b1_mate]))]) (kn_X8_at K b1_mate 8 f_b1_mate o1.1 ho2) ok_X8_at ⟨Nat.le_of_ble_eq_true rfl, Nat.le_of_ble_eq_true rfl⟩ ⟨Nat.le_of_ble_eq_true rfl, Nat.le_of_ble_eq_true rfl⟩ ns7 rfl rfl (Nat.le_of_ble_eq_true rfl) dX6_readCouple_17 [3] [0, 1, 2] rfl rfl rfl rfl (by decide) (fun r wo hO => ?_)
  obtain ⟨rfl, rfl⟩ := hO
  refine go_ws (ws' := C_X6_readCouple K a a_letters b1 b1_mate b1_berths b1_pitch b1_loud b1_depth b1_from b1_to s_a_length o1.2.1 o1.2.2.1 o1.2.2.2.1 o1.2.2.2.2 s_a_isLawTold f_a_letters s_b1_cars s_b1_sleepers s_b1_couples s_b1_law f_b1_mate) [0, 1, 2, 3] rfl rfl ?_
  refine go_eq (pc' := 20) (st' := [.int o2]) rfl rfl ?_
  refine go_iconst (v := (-1 : Int32)) dX6_readCouple_20 (by decide) ?_
  refine go_icmp_eq 33 hF dX6_readCouple_21 (by decide) (fun hF => ?_) (fun hF => ?_)
  · refine go_loc (L' := [(0, .ref a), (1, .ref b1), (2, .int o1.1)]) [1, 2, 0] rfl ?_
    exact G_X6_readCouple_33 N s_a_length f_a_letters s_b1_sleepers a a_letters b1 b1_mate b1_berths b1_pitch b1_loud b1_depth b1_from b1_to s_a_isLawTold s_b1_cars s_b1_law hR  o1.2.1 o1.2.2.1 o1.2.2.2.1 o1.2.2.2.2 s_b1_couples f_b1_mate o1.1 hF
  · refine go_aload_n 1 dX6_readCouple_24 rfl rfl ?_
    refine go_iconst (v := (4 : Int32)) dX6_readCouple_25 (by decide) ?_
    refine go_aload_n 1 dX6_readCouple_26 rfl rfl ?_
    refine go_get 6 0 5 hcX6 inX6 (Nat.le_of_ble_eq_true rfl) wd98 rfl rfl dX6_readCouple_27 ?_
    obtain ⟨o10, ho10, hF⟩ := bnd_elim hF
    refine go_callV (As := [.int (4 : Int32), .int o1.2.2.2.2]) (rest := []) (wr := [(a_letters, .inl (kI K, 240, .inl f_a_letters)), (b1, .inr (7, [.int s_b1_cars, .int s_b1_sleepers, .int s_b1_couples, .int s_b1_law, .ref b1_berths, .ref b1_pitch, .ref b1_loud, .ref b1_depth, .ref b1_from, .ref b1_to, .ref b1_mate])), (b1_mate, .inl (kI K, 8, .inl f_b1_mate))]) 6 0 hcX6 rfl (kn_X6_fail K a a_letters s_a_length o1.2.2.2.1 o1.2.2.2.2 s_a_isLawTold o1.2.1 o1.2.2.1 (4 : Int32) o1.2.2.2.2 ho10) ok_X6_fail ⟨Nat.le_of_ble_eq_true rfl, Nat.le_of_ble_eq_true rfl⟩ ⟨Nat.le_of_ble_eq_true rfl, Nat.le_of_ble_eq_true rfl⟩ wd443 rfl rfl (Nat.le_of_ble_eq_true rfl) dX6_readCouple_30 [0] [1, 2, 3] rfl rfl rfl rfl (by decide) (fun r wo hO => ?_)
    obtain ⟨rfl, rfl⟩ := hO
    refine go_ws (ws' := C_X6_readCouple K a a_letters b1 b1_mate b1_berths b1_pitch b1_loud b1_depth b1_from b1_to s_a_length o10.1 o10.2 o1.2.2.2.1 o1.2.2.2.2 s_a_isLawTold f_a_letters s_b1_cars s_b1_sleepers s_b1_couples s_b1_law f_b1_mate) [3, 0, 1, 2] rfl rfl ?_
    refine go_eq (pc' := 33) (st' := []) rfl rfl ?_
    refine go_loc (L' := [(0, .ref a), (1, .ref b1), (2, .int o1.1)]) [1, 2, 0] rfl ?_
    exact G_X6_readCouple_33 N s_a_length f_a_letters s_b1_sleepers a a_letters b1 b1_mate b1_berths b1_pitch b1_loud b1_depth b1_from b1_to s_a_isLawTold s_b1_cars s_b1_law hR  o10.1 o10.2 o1.2.2.2.1 o1.2.2.2.2 s_b1_couples f_b1_mate o1.1 hF
theorem ok_X6_readCouple : gOkV M_X6_readCouple 1 := ⟨⟨wd473, wd65, by decide +kernel, by decide +kernel, by decide +kernel⟩, wd472, wd10⟩
def C_X6_readClause (K : gK) (a : Nat) (a_letters : Nat) (b1 : Nat) (b1_berths : Nat) (b1_pitch : Nat) (b1_loud : Nat) (b1_depth : Nat) (b1_from : Nat) (b1_to : Nat) (b1_mate : Nat) (s_a_length : Int32) (s_a_faultPlace : Int32) (s_a_fault : Int32) (s_a_place : Int32) (s_a_numberPlace : Int32) (s_a_isLawTold : Int32) (f_a_letters : Nat → Int32) (s_b1_cars : Int32) (s_b1_sleepers : Int32) (s_b1_couples : Int32) (s_b1_law : Int32) (f_b1_berths : Nat → Int32) (f_b1_pitch : Nat → Int32) (f_b1_loud : Nat → Int32) (f_b1_depth : Nat → Int32) (f_b1_from : Nat → Int32) (f_b1_to : Nat → Int32) (f_b1_mate : Nat → Int32) : va_W := [(a, .inr (6, [.ref a_letters, .int s_a_length, .int s_a_faultPlace, .int s_a_fault, .int s_a_place, .int s_a_numberPlace, .int s_a_isLawTold])), (a_letters, .inl (kI K, 240, .inl f_a_letters)), (b1, .inr (7, [.int s_b1_cars, .int s_b1_sleepers, .int s_b1_couples, .int s_b1_law, .ref b1_berths, .ref b1_pitch, .ref b1_loud, .ref b1_depth, .ref b1_from, .ref b1_to, .ref b1_mate])), (b1_berths, .inl (kI K, 4, .inl f_b1_berths)), (b1_pitch, .inl (kI K, 8, .inl f_b1_pitch)), (b1_loud, .inl (kI K, 8, .inl f_b1_loud)), (b1_depth, .inl (kI K, 8, .inl f_b1_depth)), (b1_from, .inl (kI K, 8, .inl f_b1_from)), (b1_to, .inl (kI K, 8, .inl f_b1_to)), (b1_mate, .inl (kI K, 8, .inl f_b1_mate))]
def M_X6_readClause : gM := (yX6_readClause, cX6_readClause, 4, none, { frames := 4, cells := 0, slots := 0, locals := 90 })
def O_X6_readClause (K : gK) (a : Nat) (a_letters : Nat) (b1 : Nat) (b1_berths : Nat) (b1_pitch : Nat) (b1_loud : Nat) (b1_depth : Nat) (b1_from : Nat) (b1_to : Nat) (b1_mate : Nat) (s_a_length : Int32) (f_a_letters : Nat → Int32) (o : Int32 × Int32 × Int32 × Int32 × Int32 × Int32 × Int32 × Int32 × Int32 × (Nat → Int32) × (Nat → Int32) × (Nat → Int32) × (Nat → Int32) × (Nat → Int32) × (Nat → Int32) × (Nat → Int32)) : Option Value → va_W → Prop := fun r w => r = none ∧ w = C_X6_readClause K a a_letters b1 b1_berths b1_pitch b1_loud b1_depth b1_from b1_to b1_mate s_a_length o.1 o.2.1 o.2.2.1 o.2.2.2.1 o.2.2.2.2.1 f_a_letters o.2.2.2.2.2.1 o.2.2.2.2.2.2.1 o.2.2.2.2.2.2.2.1 o.2.2.2.2.2.2.2.2.1 o.2.2.2.2.2.2.2.2.2.1 o.2.2.2.2.2.2.2.2.2.2.1 o.2.2.2.2.2.2.2.2.2.2.2.1 o.2.2.2.2.2.2.2.2.2.2.2.2.1 o.2.2.2.2.2.2.2.2.2.2.2.2.2.1 o.2.2.2.2.2.2.2.2.2.2.2.2.2.2.1 o.2.2.2.2.2.2.2.2.2.2.2.2.2.2.2
noncomputable def F_X6_readClause (N : Nat) (s_a_length : Int32) (s_a_faultPlace : Int32) (s_a_fault : Int32) (s_a_place : Int32) (s_a_numberPlace : Int32) (s_a_isLawTold : Int32) (f_a_letters : Nat → Int32) (s_b1_cars : Int32) (s_b1_sleepers : Int32) (s_b1_couples : Int32) (s_b1_law : Int32) (f_b1_berths : Nat → Int32) (f_b1_pitch : Nat → Int32) (f_b1_loud : Nat → Int32) (f_b1_depth : Nat → Int32) (f_b1_from : Nat → Int32) (f_b1_to : Nat → Int32) (f_b1_mate : Nat → Int32) : Option (Int32 × Int32 × Int32 × Int32 × Int32 × Int32 × Int32 × Int32 × Int32 × (Nat → Int32) × (Nat → Int32) × (Nat → Int32) × (Nat → Int32) × (Nat → Int32) × (Nat → Int32) × (Nat → Int32)) := bnd (F_X6_letterHere s_a_length s_a_place f_a_letters) (fun o1 => bnd (F_X6_faultOfWord s_a_isLawTold s_b1_cars s_b1_sleepers s_b1_couples o1) (fun o2 => if o2 = 0 then nm (s_a_place + (1 : Int32)) (fun v3 => if o1 = (105 : Int32) then bnd (F_X6_readLaw N s_a_length s_a_faultPlace s_a_fault v3 s_a_numberPlace s_a_isLawTold f_a_letters s_b1_law) (fun o4 => some (o4.1, o4.2.1, o4.2.2.1, o4.2.2.2.1, o4.2.2.2.2.1, s_b1_cars, s_b1_sleepers, s_b1_couples, o4.2.2.2.2.2, f_b1_berths, f_b1_pitch, f_b1_loud, f_b1_depth, f_b1_from, f_b1_to, f_b1_mate)) else (if o1 = (107 : Int32) then bnd (F_X6_readCars N s_a_length s_a_faultPlace s_a_fault v3 s_a_numberPlace f_a_letters s_b1_cars f_b1_berths) (fun o5 => some (o5.1, o5.2.1, o5.2.2.1, o5.2.2.2.1, s_a_isLawTold, o5.2.2.2.2.1, s_b1_sleepers, s_b1_couples, s_b1_law, o5.2.2.2.2.2, f_b1_pitch, f_b1_loud, f_b1_depth, f_b1_from, f_b1_to, f_b1_mate)) else (if o1 = (115 : Int32) then bnd (F_X6_readSleeper N s_a_length s_a_faultPlace s_a_fault v3 s_a_numberPlace f_a_letters s_b1_sleepers f_b1_pitch f_b1_loud f_b1_depth f_b1_from f_b1_to) (fun o6 => some (o6.1, o6.2.1, o6.2.2.1, o6.2.2.2.1, s_a_isLawTold, s_b1_cars, o6.2.2.2.2.1, s_b1_couples, s_b1_law, f_b1_berths, o6.2.2.2.2.2.1, o6.2.2.2.2.2.2.1, o6.2.2.2.2.2.2.2.1, o6.2.2.2.2.2.2.2.2.1, o6.2.2.2.2.2.2.2.2.2, f_b1_mate)) else (bnd (F_X6_readCouple N s_a_length s_a_faultPlace s_a_fault v3 s_a_numberPlace f_a_letters s_b1_sleepers s_b1_couples f_b1_mate) (fun o7 => some (o7.1, o7.2.1, o7.2.2.1, o7.2.2.2.1, s_a_isLawTold, s_b1_cars, s_b1_sleepers, o7.2.2.2.2.1, s_b1_law, f_b1_berths, f_b1_pitch, f_b1_loud, f_b1_depth, f_b1_from, f_b1_to, o7.2.2.2.2.2)))))) else bnd (F_X6_fail s_a_faultPlace s_a_fault o2 s_a_place) (fun o8 => some (o8.1, o8.2, s_a_place, s_a_numberPlace, s_a_isLawTold, s_b1_cars, s_b1_sleepers, s_b1_couples, s_b1_law, f_b1_berths, f_b1_pitch, f_b1_loud, f_b1_depth, f_b1_from, f_b1_to, f_b1_mate))))
set_option maxHeartbeats 4000000 in
theorem kn_X6_readClause (K : gK) (N : Nat) (a : Nat) (a_letters : Nat) (b1 : Nat) (b1_berths : Nat) (b1_pitch : Nat) (b1_loud : Nat) (b1_depth : Nat) (b1_from : Nat) (b1_to : Nat) (b1_mate : Nat) (s_a_length : Int32) (s_a_faultPlace : Int32) (s_a_fault : Int32) (s_a_place : Int32) (s_a_numberPlace : Int32) (s_a_isLawTold : Int32) (f_a_letters : Nat → Int32) (s_b1_cars : Int32) (s_b1_sleepers : Int32) (s_b1_couples : Int32) (s_b1_law : Int32) (f_b1_berths : Nat → Int32) (f_b1_pitch : Nat → Int32) (f_b1_loud : Nat → Int32) (f_b1_depth : Nat → Int32) (f_b1_from : Nat → Int32) (f_b1_to : Nat → Int32) (f_b1_mate : Nat → Int32) {o : Int32 × Int32 × Int32 × Int32 × Int32 × Int32 × Int32 × Int32 × Int32 × (Nat → Int32) × (Nat → Int32) × (Nat → Int32) × (Nat → Int32) × (Nat → Int32) × (Nat → Int32) × (Nat → Int32)} (hF : F_X6_readClause N s_a_length s_a_faultPlace s_a_fault s_a_place s_a_numberPlace s_a_isLawTold f_a_letters s_b1_cars s_b1_sleepers s_b1_couples s_b1_law f_b1_berths f_b1_pitch f_b1_loud f_b1_depth f_b1_from f_b1_to f_b1_mate = some o) : Kn K M_X6_readClause [.ref a, .ref b1] (C_X6_readClause K a a_letters b1 b1_berths b1_pitch b1_loud b1_depth b1_from b1_to b1_mate s_a_length s_a_faultPlace s_a_fault s_a_place s_a_numberPlace s_a_isLawTold f_a_letters s_b1_cars s_b1_sleepers s_b1_couples s_b1_law f_b1_berths f_b1_pitch f_b1_loud f_b1_depth f_b1_from f_b1_to f_b1_mate) (O_X6_readClause K a a_letters b1 b1_berths b1_pitch b1_loud b1_depth b1_from b1_to b1_mate s_a_length f_a_letters o) := by
  refine kn_of (by decide +kernel) (Nat.le_of_ble_eq_true rfl) (fun X hR => ?_)
  refine go_loc (L' := [(0, .ref a), (1, .ref b1)]) [0, 1] rfl ?_
  unfold F_X6_readClause at hF
  refine go_aload_n 0 dX6_readClause_0 rfl rfl ?_
  obtain ⟨o1, ho1, hF⟩ := bnd_elim hF
  refine go_callV (As := []) (rest := []) (wr := [(b1, .inr (7, [.int s_b1_cars, .int s_b1_sleepers, .int s_b1_couples, .int s_b1_law, .ref b1_berths, .ref b1_pitch, .ref b1_loud, .ref b1_depth, .ref b1_from, .ref b1_to, .ref b1_mate])), (b1_berths, .inl (kI K, 4, .inl f_b1_berths)), (b1_pitch, .inl (kI K, 8, .inl f_b1_pitch)), (b1_loud, .inl (kI K, 8, .inl f_b1_loud)), (b1_depth, .inl (kI K, 8, .inl f_b1_depth)), (b1_from, .inl (kI K, 8, .inl f_b1_from)), (b1_to, .inl (kI K, 8, .inl f_b1_to)), (b1_mate, .inl (kI K, 8, .inl f_b1_mate))]) 6 0 hcX6 rfl (kn_X6_letterHere K a a_letters s_a_faultPlace s_a_fault s_a_numberPlace s_a_isLawTold s_a_length s_a_place f_a_letters ho1) ok_X6_letterHere ⟨Nat.le_of_ble_eq_true rfl, Nat.le_of_ble_eq_true rfl⟩ ⟨Nat.le_of_ble_eq_true rfl, Nat.le_of_ble_eq_true rfl⟩ wd435 rfl rfl (Nat.le_of_ble_eq_true rfl) dX6_readClause_1 [0, 1] [2, 3, 4, 5, 6, 7, 8, 9] rfl rfl rfl rfl (by decide) (fun r wo hO => ?_)
  obtain ⟨rfl, rfl⟩ := hO
  refine go_ws (ws' := C_X6_readClause K a a_letters b1 b1_berths b1_pitch b1_loud b1_depth b1_from b1_to b1_mate s_a_length s_a_faultPlace s_a_fault s_a_place s_a_numberPlace s_a_isLawTold f_a_letters s_b1_cars s_b1_sleepers s_b1_couples s_b1_law f_b1_berths f_b1_pitch f_b1_loud f_b1_depth f_b1_from f_b1_to f_b1_mate) [8, 9, 0, 1, 2, 3, 4, 5, 6, 7] rfl rfl ?_
  refine go_eq (pc' := 4) (st' := [.int o1]) rfl rfl ?_
  refine go_istore_n [(2, .int o1), (0, .ref a), (1, .ref b1)] dX6_readClause_4 rfl (Nat.le_of_ble_eq_true rfl) rfl ?_
  refine go_aload_n 1 dX6_readClause_5 rfl rfl ?_
  refine go_aload_n 2 dX6_readClause_6 rfl rfl ?_
  refine go_iload_n 0 dX6_readClause_7 rfl rfl ?_
  obtain ⟨o2, ho2, hF⟩ := bnd_elim hF
  refine go_callV (As := [.ref b1, .int o1]) (rest := []) (wr := [(a_letters, .inl (kI K, 240, .inl f_a_letters)), (b1_berths, .inl (kI K, 4, .inl f_b1_berths)), (b1_pitch, .inl (kI K, 8, .inl f_b1_pitch)), (b1_loud, .inl (kI K, 8, .inl f_b1_loud)), (b1_depth, .inl (kI K, 8, .inl f_b1_depth)), (b1_from, .inl (kI K, 8, .inl f_b1_from)), (b1_to, .inl (kI K, 8, .inl f_b1_to)), (b1_mate, .inl (kI K, 8, .inl f_b1_mate))]) 6 0 hcX6 rfl (kn_X6_faultOfWord K a b1 a_letters b1_berths b1_pitch b1_loud b1_depth b1_from b1_to b1_mate s_a_length s_a_faultPlace s_a_fault s_a_place s_a_numberPlace s_b1_law s_a_isLawTold s_b1_cars s_b1_sleepers s_b1_couples o1 ho2) ok_X6_faultOfWord ⟨Nat.le_of_ble_eq_true rfl, Nat.le_of_ble_eq_true rfl⟩ ⟨Nat.le_of_ble_eq_true rfl, Nat.le_of_ble_eq_true rfl⟩ wd439 rfl rfl (Nat.le_of_ble_eq_true rfl) dX6_readClause_8 [0, 2] [1, 3, 4, 5, 6, 7, 8, 9] rfl rfl rfl rfl (by decide) (fun r wo hO => ?_)
  obtain ⟨rfl, rfl⟩ := hO
  refine go_ws (ws' := C_X6_readClause K a a_letters b1 b1_berths b1_pitch b1_loud b1_depth b1_from b1_to b1_mate s_a_length s_a_faultPlace s_a_fault s_a_place s_a_numberPlace s_a_isLawTold f_a_letters s_b1_cars s_b1_sleepers s_b1_couples s_b1_law f_b1_berths f_b1_pitch f_b1_loud f_b1_depth f_b1_from f_b1_to f_b1_mate) [8, 0, 9, 1, 2, 3, 4, 5, 6, 7] rfl rfl ?_
  refine go_eq (pc' := 11) (st' := [.int o2]) rfl rfl ?_
  refine go_istore_n [(3, .int o2), (2, .int o1), (0, .ref a), (1, .ref b1)] dX6_readClause_11 rfl (Nat.le_of_ble_eq_true rfl) rfl ?_
  refine go_iload_n 0 dX6_readClause_12 rfl rfl ?_
  refine go_if_eq 26 hF dX6_readClause_13 (by decide) (fun hF => ?_) (fun hF => ?_)
  · refine go_aload_n 2 dX6_readClause_26 rfl rfl ?_
    refine go_dup dX6_readClause_27 rfl ?_
    refine go_get 6 0 4 hcX6 inX6 (Nat.le_of_ble_eq_true rfl) wd97 rfl rfl dX6_readClause_28 ?_
    refine go_iconst (v := (1 : Int32)) dX6_readClause_31 (by decide) ?_
    refine go_iadd dX6_readClause_32 ?_
    refine go_nmi hF (fun v3 hF => ?_)
    refine go_put 6 0 4 (C_X6_readClause K a a_letters b1 b1_berths b1_pitch b1_loud b1_depth b1_from b1_to b1_mate s_a_length s_a_faultPlace s_a_fault v3 s_a_numberPlace s_a_isLawTold f_a_letters s_b1_cars s_b1_sleepers s_b1_couples s_b1_law f_b1_berths f_b1_pitch f_b1_loud f_b1_depth f_b1_from f_b1_to f_b1_mate) hcX6 inX6 tyX6_ok nmX6 (Nat.le_of_ble_eq_true rfl) wd97 rfl rfl rfl rfl (Nat.le_of_ble_eq_true rfl) rfl dX6_readClause_33 ?_
    refine go_iload_n 1 dX6_readClause_36 rfl rfl ?_
    refine go_ite hF (fun e0 hF => ?_) (fun n105 hF => ?_)
    · refine go_lsw (off := 51) 88 dX6_readClause_37 (by decide) (by rw [e0]; rfl) (by decide) ?_
      refine go_aload_n 2 dX6_readClause_88 rfl rfl ?_
      refine go_aload_n 3 dX6_readClause_89 rfl rfl ?_
      obtain ⟨o4, ho4, hF⟩ := bnd_elim hF
      refine go_callV (As := [.ref b1]) (rest := []) (wr := [(b1_berths, .inl (kI K, 4, .inl f_b1_berths)), (b1_pitch, .inl (kI K, 8, .inl f_b1_pitch)), (b1_loud, .inl (kI K, 8, .inl f_b1_loud)), (b1_depth, .inl (kI K, 8, .inl f_b1_depth)), (b1_from, .inl (kI K, 8, .inl f_b1_from)), (b1_to, .inl (kI K, 8, .inl f_b1_to)), (b1_mate, .inl (kI K, 8, .inl f_b1_mate))]) 6 0 hcX6 rfl (kn_X6_readLaw K N a a_letters b1 b1_berths b1_pitch b1_loud b1_depth b1_from b1_to b1_mate s_b1_cars s_b1_sleepers s_b1_couples s_a_length s_a_faultPlace s_a_fault v3 s_a_numberPlace s_a_isLawTold f_a_letters s_b1_law ho4) ok_X6_readLaw ⟨Nat.le_of_ble_eq_true rfl, Nat.le_of_ble_eq_true rfl⟩ ⟨Nat.le_of_ble_eq_true rfl, Nat.le_of_ble_eq_true rfl⟩ wd466 rfl rfl (Nat.le_of_ble_eq_true rfl) dX6_readClause_90 [0, 1, 2] [3, 4, 5, 6, 7, 8, 9] rfl rfl rfl rfl (by decide) (fun r wo hO => ?_)
      obtain ⟨rfl, rfl⟩ := hO
      refine go_ws (ws' := C_X6_readClause K a a_letters b1 b1_berths b1_pitch b1_loud b1_depth b1_from b1_to b1_mate s_a_length o4.1 o4.2.1 o4.2.2.1 o4.2.2.2.1 o4.2.2.2.2.1 f_a_letters s_b1_cars s_b1_sleepers s_b1_couples o4.2.2.2.2.2 f_b1_berths f_b1_pitch f_b1_loud f_b1_depth f_b1_from f_b1_to f_b1_mate) [7, 8, 9, 0, 1, 2, 3, 4, 5, 6] rfl rfl ?_
      refine go_eq (pc' := 93) (st' := []) rfl rfl ?_
      refine go_goto 101 dX6_readClause_93 (by decide) ?_
      exact go_vret (Om := O_X6_readClause K a a_letters b1 b1_berths b1_pitch b1_loud b1_depth b1_from b1_to b1_mate s_a_length f_a_letters) hR hF dX6_readClause_101 rfl (Nat.zero_le _) (Nat.zero_le _) ⟨rfl, rfl⟩
    refine go_ite hF (fun e0 hF => ?_) (fun n107 hF => ?_)
    · refine go_lsw (off := 35) 72 dX6_readClause_37 (by decide) (by rw [e0]; rfl) (by decide) ?_
      refine go_aload_n 2 dX6_readClause_72 rfl rfl ?_
      refine go_aload_n 3 dX6_readClause_73 rfl rfl ?_
      obtain ⟨o5, ho5, hF⟩ := bnd_elim hF
      refine go_callV (As := [.ref b1]) (rest := []) (wr := [(b1_pitch, .inl (kI K, 8, .inl f_b1_pitch)), (b1_loud, .inl (kI K, 8, .inl f_b1_loud)), (b1_depth, .inl (kI K, 8, .inl f_b1_depth)), (b1_from, .inl (kI K, 8, .inl f_b1_from)), (b1_to, .inl (kI K, 8, .inl f_b1_to)), (b1_mate, .inl (kI K, 8, .inl f_b1_mate))]) 6 0 hcX6 rfl (kn_X6_readCars K N a a_letters b1 b1_berths b1_pitch b1_loud b1_depth b1_from b1_to b1_mate s_a_isLawTold s_b1_sleepers s_b1_couples s_b1_law s_a_length s_a_faultPlace s_a_fault v3 s_a_numberPlace f_a_letters s_b1_cars f_b1_berths ho5) ok_X6_readCars ⟨Nat.le_of_ble_eq_true rfl, Nat.le_of_ble_eq_true rfl⟩ ⟨Nat.le_of_ble_eq_true rfl, Nat.le_of_ble_eq_true rfl⟩ wd447 rfl rfl (Nat.le_of_ble_eq_true rfl) dX6_readClause_74 [0, 1, 2, 3] [4, 5, 6, 7, 8, 9] rfl rfl rfl rfl (by decide) (fun r wo hO => ?_)
      obtain ⟨rfl, rfl⟩ := hO
      refine go_ws (ws' := C_X6_readClause K a a_letters b1 b1_berths b1_pitch b1_loud b1_depth b1_from b1_to b1_mate s_a_length o5.1 o5.2.1 o5.2.2.1 o5.2.2.2.1 s_a_isLawTold f_a_letters o5.2.2.2.2.1 s_b1_sleepers s_b1_couples s_b1_law o5.2.2.2.2.2 f_b1_pitch f_b1_loud f_b1_depth f_b1_from f_b1_to f_b1_mate) [6, 7, 8, 9, 0, 1, 2, 3, 4, 5] rfl rfl ?_
      refine go_eq (pc' := 77) (st' := []) rfl rfl ?_
      refine go_goto 101 dX6_readClause_77 (by decide) ?_
      exact go_vret (Om := O_X6_readClause K a a_letters b1 b1_berths b1_pitch b1_loud b1_depth b1_from b1_to b1_mate s_a_length f_a_letters) hR hF dX6_readClause_101 rfl (Nat.zero_le _) (Nat.zero_le _) ⟨rfl, rfl⟩
    refine go_ite hF (fun e0 hF => ?_) (fun n115 hF => ?_)
    · refine go_lsw (off := 43) 80 dX6_readClause_37 (by decide) (by rw [e0]; rfl) (by decide) ?_
      refine go_aload_n 2 dX6_readClause_80 rfl rfl ?_
      refine go_aload_n 3 dX6_readClause_81 rfl rfl ?_
      obtain ⟨o6, ho6, hF⟩ := bnd_elim hF
      refine go_callV (As := [.ref b1]) (rest := []) (wr := [(b1_berths, .inl (kI K, 4, .inl f_b1_berths)), (b1_mate, .inl (kI K, 8, .inl f_b1_mate))]) 6 0 hcX6 rfl (kn_X6_readSleeper K N a a_letters b1 b1_pitch b1_loud b1_depth b1_from b1_to b1_berths b1_mate s_a_isLawTold s_b1_cars s_b1_couples s_b1_law s_a_length s_a_faultPlace s_a_fault v3 s_a_numberPlace f_a_letters s_b1_sleepers f_b1_pitch f_b1_loud f_b1_depth f_b1_from f_b1_to ho6) ok_X6_readSleeper ⟨Nat.le_of_ble_eq_true rfl, Nat.le_of_ble_eq_true rfl⟩ ⟨Nat.le_of_ble_eq_true rfl, Nat.le_of_ble_eq_true rfl⟩ wd462 rfl rfl (Nat.le_of_ble_eq_true rfl) dX6_readClause_82 [0, 1, 2, 4, 5, 6, 7, 8] [3, 9] rfl rfl rfl rfl (by decide) (fun r wo hO => ?_)
      obtain ⟨rfl, rfl⟩ := hO
      refine go_ws (ws' := C_X6_readClause K a a_letters b1 b1_berths b1_pitch b1_loud b1_depth b1_from b1_to b1_mate s_a_length o6.1 o6.2.1 o6.2.2.1 o6.2.2.2.1 s_a_isLawTold f_a_letters s_b1_cars o6.2.2.2.2.1 s_b1_couples s_b1_law f_b1_berths o6.2.2.2.2.2.1 o6.2.2.2.2.2.2.1 o6.2.2.2.2.2.2.2.1 o6.2.2.2.2.2.2.2.2.1 o6.2.2.2.2.2.2.2.2.2 f_b1_mate) [2, 3, 4, 0, 5, 6, 7, 8, 9, 1] rfl rfl ?_
      refine go_eq (pc' := 85) (st' := []) rfl rfl ?_
      refine go_goto 101 dX6_readClause_85 (by decide) ?_
      exact go_vret (Om := O_X6_readClause K a a_letters b1 b1_berths b1_pitch b1_loud b1_depth b1_from b1_to b1_mate s_a_length f_a_letters) hR hF dX6_readClause_101 rfl (Nat.zero_le _) (Nat.zero_le _) ⟨rfl, rfl⟩
    refine go_lsw (off := 59) 96 dX6_readClause_37 (by decide) (by show Op.lookupswitch.offset [(105, 51), (107, 35), (115, 43)] 59 _ = _; rw [lv_osw (a := 105) n105 (by decide), lv_osw (a := 107) n107 (by decide), lv_osw (a := 115) n115 (by decide)]; rfl) (by decide) ?_
    refine go_aload_n 2 dX6_readClause_96 rfl rfl ?_
    refine go_aload_n 3 dX6_readClause_97 rfl rfl ?_
    obtain ⟨o7, ho7, hF⟩ := bnd_elim hF
    refine go_callV (As := [.ref b1]) (rest := []) (wr := [(b1_berths, .inl (kI K, 4, .inl f_b1_berths)), (b1_pitch, .inl (kI K, 8, .inl f_b1_pitch)), (b1_loud, .inl (kI K, 8, .inl f_b1_loud)), (b1_depth, .inl (kI K, 8, .inl f_b1_depth)), (b1_from, .inl (kI K, 8, .inl f_b1_from)), (b1_to, .inl (kI K, 8, .inl f_b1_to))]) 6 0 hcX6 rfl (kn_X6_readCouple K N a a_letters b1 b1_mate b1_berths b1_pitch b1_loud b1_depth b1_from b1_to s_a_isLawTold s_b1_cars s_b1_law s_a_length s_a_faultPlace s_a_fault v3 s_a_numberPlace f_a_letters s_b1_sleepers s_b1_couples f_b1_mate ho7) ok_X6_readCouple ⟨Nat.le_of_ble_eq_true rfl, Nat.le_of_ble_eq_true rfl⟩ ⟨Nat.le_of_ble_eq_true rfl, Nat.le_of_ble_eq_true rfl⟩ wd470 rfl rfl (Nat.le_of_ble_eq_true rfl) dX6_readClause_98 [0, 1, 2, 9] [3, 4, 5, 6, 7, 8] rfl rfl rfl rfl (by decide) (fun r wo hO => ?_)
    obtain ⟨rfl, rfl⟩ := hO
    refine go_ws (ws' := C_X6_readClause K a a_letters b1 b1_berths b1_pitch b1_loud b1_depth b1_from b1_to b1_mate s_a_length o7.1 o7.2.1 o7.2.2.1 o7.2.2.2.1 s_a_isLawTold f_a_letters s_b1_cars s_b1_sleepers o7.2.2.2.2.1 s_b1_law f_b1_berths f_b1_pitch f_b1_loud f_b1_depth f_b1_from f_b1_to o7.2.2.2.2.2) [6, 7, 8, 0, 1, 2, 3, 4, 5, 9] rfl rfl ?_
    refine go_eq (pc' := 101) (st' := []) rfl rfl ?_
    exact go_vret (Om := O_X6_readClause K a a_letters b1 b1_berths b1_pitch b1_loud b1_depth b1_from b1_to b1_mate s_a_length f_a_letters) hR hF dX6_readClause_101 rfl (Nat.zero_le _) (Nat.zero_le _) ⟨rfl, rfl⟩
  · refine go_aload_n 2 dX6_readClause_16 rfl rfl ?_
    refine go_iload_n 0 dX6_readClause_17 rfl rfl ?_
    refine go_aload_n 2 dX6_readClause_18 rfl rfl ?_
    refine go_get 6 0 4 hcX6 inX6 (Nat.le_of_ble_eq_true rfl) wd97 rfl rfl dX6_readClause_19 ?_
    obtain ⟨o8, ho8, hF⟩ := bnd_elim hF
    refine go_callV (As := [.int o2, .int s_a_place]) (rest := []) (wr := [(a_letters, .inl (kI K, 240, .inl f_a_letters)), (b1, .inr (7, [.int s_b1_cars, .int s_b1_sleepers, .int s_b1_couples, .int s_b1_law, .ref b1_berths, .ref b1_pitch, .ref b1_loud, .ref b1_depth, .ref b1_from, .ref b1_to, .ref b1_mate])), (b1_berths, .inl (kI K, 4, .inl f_b1_berths)), (b1_pitch, .inl (kI K, 8, .inl f_b1_pitch)), (b1_loud, .inl (kI K, 8, .inl f_b1_loud)), (b1_depth, .inl (kI K, 8, .inl f_b1_depth)), (b1_from, .inl (kI K, 8, .inl f_b1_from)), (b1_to, .inl (kI K, 8, .inl f_b1_to)), (b1_mate, .inl (kI K, 8, .inl f_b1_mate))]) 6 0 hcX6 rfl (kn_X6_fail K a a_letters s_a_length s_a_place s_a_numberPlace s_a_isLawTold s_a_faultPlace s_a_fault o2 s_a_place ho8) ok_X6_fail ⟨Nat.le_of_ble_eq_true rfl, Nat.le_of_ble_eq_true rfl⟩ ⟨Nat.le_of_ble_eq_true rfl, Nat.le_of_ble_eq_true rfl⟩ wd443 rfl rfl (Nat.le_of_ble_eq_true rfl) dX6_readClause_22 [0] [1, 2, 3, 4, 5, 6, 7, 8, 9] rfl rfl rfl rfl (by decide) (fun r wo hO => ?_)
    obtain ⟨rfl, rfl⟩ := hO
    refine go_ws (ws' := C_X6_readClause K a a_letters b1 b1_berths b1_pitch b1_loud b1_depth b1_from b1_to b1_mate s_a_length o8.1 o8.2 s_a_place s_a_numberPlace s_a_isLawTold f_a_letters s_b1_cars s_b1_sleepers s_b1_couples s_b1_law f_b1_berths f_b1_pitch f_b1_loud f_b1_depth f_b1_from f_b1_to f_b1_mate) [9, 0, 1, 2, 3, 4, 5, 6, 7, 8] rfl rfl ?_
    refine go_eq (pc' := 25) (st' := []) rfl rfl ?_
    exact go_vret (Om := O_X6_readClause K a a_letters b1 b1_berths b1_pitch b1_loud b1_depth b1_from b1_to b1_mate s_a_length f_a_letters) hR hF dX6_readClause_25 rfl (Nat.zero_le _) (Nat.zero_le _) ⟨rfl, rfl⟩
theorem ok_X6_readClause : gOkV M_X6_readClause 1 := ⟨⟨wd434, wd65, by decide +kernel, by decide +kernel, by decide +kernel⟩, wd433, wd1⟩
def C_X6_read (K : gK) (a : Nat) (a_letters : Nat) (b1 : Nat) (b1_berths : Nat) (b1_pitch : Nat) (b1_loud : Nat) (b1_depth : Nat) (b1_from : Nat) (b1_to : Nat) (b1_mate : Nat) (s_a_length : Int32) (s_a_faultPlace : Int32) (s_a_fault : Int32) (s_a_place : Int32) (s_a_numberPlace : Int32) (s_a_isLawTold : Int32) (f_a_letters : Nat → Int32) (s_b1_cars : Int32) (s_b1_sleepers : Int32) (s_b1_couples : Int32) (s_b1_law : Int32) (f_b1_berths : Nat → Int32) (f_b1_pitch : Nat → Int32) (f_b1_loud : Nat → Int32) (f_b1_depth : Nat → Int32) (f_b1_from : Nat → Int32) (f_b1_to : Nat → Int32) (f_b1_mate : Nat → Int32) : va_W := [(a, .inr (6, [.ref a_letters, .int s_a_length, .int s_a_faultPlace, .int s_a_fault, .int s_a_place, .int s_a_numberPlace, .int s_a_isLawTold])), (a_letters, .inl (kI K, 240, .inl f_a_letters)), (b1, .inr (7, [.int s_b1_cars, .int s_b1_sleepers, .int s_b1_couples, .int s_b1_law, .ref b1_berths, .ref b1_pitch, .ref b1_loud, .ref b1_depth, .ref b1_from, .ref b1_to, .ref b1_mate])), (b1_berths, .inl (kI K, 4, .inl f_b1_berths)), (b1_pitch, .inl (kI K, 8, .inl f_b1_pitch)), (b1_loud, .inl (kI K, 8, .inl f_b1_loud)), (b1_depth, .inl (kI K, 8, .inl f_b1_depth)), (b1_from, .inl (kI K, 8, .inl f_b1_from)), (b1_to, .inl (kI K, 8, .inl f_b1_to)), (b1_mate, .inl (kI K, 8, .inl f_b1_mate))]
def M_X6_read : gM := (yX6_read, cX6_read, 3, (some .int), { frames := 5, cells := 0, slots := 0, locals := 113 })
def O_X6_read (K : gK) (a : Nat) (a_letters : Nat) (b1 : Nat) (b1_berths : Nat) (b1_pitch : Nat) (b1_loud : Nat) (b1_depth : Nat) (b1_from : Nat) (b1_to : Nat) (b1_mate : Nat) (s_a_length : Int32) (f_a_letters : Nat → Int32) (o : Int32 × Int32 × Int32 × Int32 × Int32 × Int32 × Int32 × Int32 × Int32 × Int32 × (Nat → Int32) × (Nat → Int32) × (Nat → Int32) × (Nat → Int32) × (Nat → Int32) × (Nat → Int32) × (Nat → Int32)) : Option Value → va_W → Prop := fun r w => r = some (.int o.1) ∧ w = C_X6_read K a a_letters b1 b1_berths b1_pitch b1_loud b1_depth b1_from b1_to b1_mate s_a_length o.2.1 o.2.2.1 o.2.2.2.1 o.2.2.2.2.1 o.2.2.2.2.2.1 f_a_letters o.2.2.2.2.2.2.1 o.2.2.2.2.2.2.2.1 o.2.2.2.2.2.2.2.2.1 o.2.2.2.2.2.2.2.2.2.1 o.2.2.2.2.2.2.2.2.2.2.1 o.2.2.2.2.2.2.2.2.2.2.2.1 o.2.2.2.2.2.2.2.2.2.2.2.2.1 o.2.2.2.2.2.2.2.2.2.2.2.2.2.1 o.2.2.2.2.2.2.2.2.2.2.2.2.2.2.1 o.2.2.2.2.2.2.2.2.2.2.2.2.2.2.2.1 o.2.2.2.2.2.2.2.2.2.2.2.2.2.2.2.2
noncomputable def B_X6_read_25 (N : Nat) (s_a_length : Int32) (f_a_letters : Nat → Int32) (k25 : Int32 → Int32 → Int32 → Int32 → Int32 → Int32 → Int32 → Int32 → Int32 → (Nat → Int32) → (Nat → Int32) → (Nat → Int32) → (Nat → Int32) → (Nat → Int32) → (Nat → Int32) → (Nat → Int32) → Int32 → Option (Int32 × Int32 × Int32 × Int32 × Int32 × Int32 × Int32 × Int32 × Int32 × Int32 × (Nat → Int32) × (Nat → Int32) × (Nat → Int32) × (Nat → Int32) × (Nat → Int32) × (Nat → Int32) × (Nat → Int32))) (s_a_faultPlace : Int32) (s_a_fault : Int32) (s_a_place : Int32) (s_a_numberPlace : Int32) (s_a_isLawTold : Int32) (s_b1_cars : Int32) (s_b1_sleepers : Int32) (s_b1_couples : Int32) (s_b1_law : Int32) (f_b1_berths : Nat → Int32) (f_b1_pitch : Nat → Int32) (f_b1_loud : Nat → Int32) (f_b1_depth : Nat → Int32) (f_b1_from : Nat → Int32) (f_b1_to : Nat → Int32) (f_b1_mate : Nat → Int32) (x2 : Int32) : Option (Int32 × Int32 × Int32 × Int32 × Int32 × Int32 × Int32 × Int32 × Int32 × Int32 × (Nat → Int32) × (Nat → Int32) × (Nat → Int32) × (Nat → Int32) × (Nat → Int32) × (Nat → Int32) × (Nat → Int32)) := if (240 : Int32) ≤ x2 then some (s_a_fault, s_a_faultPlace, s_a_fault, s_a_place, s_a_numberPlace, s_a_isLawTold, s_b1_cars, s_b1_sleepers, s_b1_couples, s_b1_law, f_b1_berths, f_b1_pitch, f_b1_loud, f_b1_depth, f_b1_from, f_b1_to, f_b1_mate) else if s_a_length ≤ s_a_place then some (s_a_fault, s_a_faultPlace, s_a_fault, s_a_place, s_a_numberPlace, s_a_isLawTold, s_b1_cars, s_b1_sleepers, s_b1_couples, s_b1_law, f_b1_berths, f_b1_pitch, f_b1_loud, f_b1_depth, f_b1_from, f_b1_to, f_b1_mate) else if s_a_fault = 0 then bnd (F_X6_readClause N s_a_length s_a_faultPlace s_a_fault s_a_place s_a_numberPlace s_a_isLawTold f_a_letters s_b1_cars s_b1_sleepers s_b1_couples s_b1_law f_b1_berths f_b1_pitch f_b1_loud f_b1_depth f_b1_from f_b1_to f_b1_mate) (fun o3 => bnd (F_X6_skipBlanks N s_a_length o3.2.2.1 f_a_letters) (fun o4 => nm (x2 + (1 : Int32)) (fun v5 => k25 o3.1 o3.2.1 o4 o3.2.2.2.1 o3.2.2.2.2.1 o3.2.2.2.2.2.1 o3.2.2.2.2.2.2.1 o3.2.2.2.2.2.2.2.1 o3.2.2.2.2.2.2.2.2.1 o3.2.2.2.2.2.2.2.2.2.1 o3.2.2.2.2.2.2.2.2.2.2.1 o3.2.2.2.2.2.2.2.2.2.2.2.1 o3.2.2.2.2.2.2.2.2.2.2.2.2.1 o3.2.2.2.2.2.2.2.2.2.2.2.2.2.1 o3.2.2.2.2.2.2.2.2.2.2.2.2.2.2.1 o3.2.2.2.2.2.2.2.2.2.2.2.2.2.2.2 v5))) else some (s_a_fault, s_a_faultPlace, s_a_fault, s_a_place, s_a_numberPlace, s_a_isLawTold, s_b1_cars, s_b1_sleepers, s_b1_couples, s_b1_law, f_b1_berths, f_b1_pitch, f_b1_loud, f_b1_depth, f_b1_from, f_b1_to, f_b1_mate)
noncomputable def F_X6_read_25 (N : Nat) (s_a_length : Int32) (f_a_letters : Nat → Int32)  : Nat → Int32 → Int32 → Int32 → Int32 → Int32 → Int32 → Int32 → Int32 → Int32 → (Nat → Int32) → (Nat → Int32) → (Nat → Int32) → (Nat → Int32) → (Nat → Int32) → (Nat → Int32) → (Nat → Int32) → Int32 → Option (Int32 × Int32 × Int32 × Int32 × Int32 × Int32 × Int32 × Int32 × Int32 × Int32 × (Nat → Int32) × (Nat → Int32) × (Nat → Int32) × (Nat → Int32) × (Nat → Int32) × (Nat → Int32) × (Nat → Int32)) := lq17 (fun self => B_X6_read_25 N s_a_length f_a_letters  self)
set_option maxHeartbeats 4000000 in
theorem G_X6_read_25 {K : gK} {X : gX} {wi : va_W} {o : Int32 × Int32 × Int32 × Int32 × Int32 × Int32 × Int32 × Int32 × Int32 × Int32 × (Nat → Int32) × (Nat → Int32) × (Nat → Int32) × (Nat → Int32) × (Nat → Int32) × (Nat → Int32) × (Nat → Int32)} (N : Nat) (s_a_length : Int32) (f_a_letters : Nat → Int32) (a : Nat) (a_letters : Nat) (b1 : Nat) (b1_berths : Nat) (b1_pitch : Nat) (b1_loud : Nat) (b1_depth : Nat) (b1_from : Nat) (b1_to : Nat) (b1_mate : Nat) (hR : gR K X M_X6_read wi (O_X6_read K a a_letters b1 b1_berths b1_pitch b1_loud b1_depth b1_from b1_to b1_mate s_a_length f_a_letters o)) (k25 : Int32 → Int32 → Int32 → Int32 → Int32 → Int32 → Int32 → Int32 → Int32 → (Nat → Int32) → (Nat → Int32) → (Nat → Int32) → (Nat → Int32) → (Nat → Int32) → (Nat → Int32) → (Nat → Int32) → Int32 → Option (Int32 × Int32 × Int32 × Int32 × Int32 × Int32 × Int32 × Int32 × Int32 × Int32 × (Nat → Int32) × (Nat → Int32) × (Nat → Int32) × (Nat → Int32) × (Nat → Int32) × (Nat → Int32) × (Nat → Int32))) (hk25 : ∀ (s_a_faultPlace : Int32) (s_a_fault : Int32) (s_a_place : Int32) (s_a_numberPlace : Int32) (s_a_isLawTold : Int32) (s_b1_cars : Int32) (s_b1_sleepers : Int32) (s_b1_couples : Int32) (s_b1_law : Int32) (f_b1_berths : Nat → Int32) (f_b1_pitch : Nat → Int32) (f_b1_loud : Nat → Int32) (f_b1_depth : Nat → Int32) (f_b1_from : Nat → Int32) (f_b1_to : Nat → Int32) (f_b1_mate : Nat → Int32) (x2 : Int32), k25 s_a_faultPlace s_a_fault s_a_place s_a_numberPlace s_a_isLawTold s_b1_cars s_b1_sleepers s_b1_couples s_b1_law f_b1_berths f_b1_pitch f_b1_loud f_b1_depth f_b1_from f_b1_to f_b1_mate x2 = some o → Go K X M_X6_read 0 0 (C_X6_read K a a_letters b1 b1_berths b1_pitch b1_loud b1_depth b1_from b1_to b1_mate s_a_length s_a_faultPlace s_a_fault s_a_place s_a_numberPlace s_a_isLawTold f_a_letters s_b1_cars s_b1_sleepers s_b1_couples s_b1_law f_b1_berths f_b1_pitch f_b1_loud f_b1_depth f_b1_from f_b1_to f_b1_mate) [(0, .ref a), (1, .ref b1), (2, .int x2)] 25 []) (s_a_faultPlace : Int32) (s_a_fault : Int32) (s_a_place : Int32) (s_a_numberPlace : Int32) (s_a_isLawTold : Int32) (s_b1_cars : Int32) (s_b1_sleepers : Int32) (s_b1_couples : Int32) (s_b1_law : Int32) (f_b1_berths : Nat → Int32) (f_b1_pitch : Nat → Int32) (f_b1_loud : Nat → Int32) (f_b1_depth : Nat → Int32) (f_b1_from : Nat → Int32) (f_b1_to : Nat → Int32) (f_b1_mate : Nat → Int32) (x2 : Int32) (hF : B_X6_read_25 N s_a_length f_a_letters k25 s_a_faultPlace s_a_fault s_a_place s_a_numberPlace s_a_isLawTold s_b1_cars s_b1_sleepers s_b1_couples s_b1_law f_b1_berths f_b1_pitch f_b1_loud f_b1_depth f_b1_from f_b1_to f_b1_mate x2 = some o) : Go K X M_X6_read 0 0 (C_X6_read K a a_letters b1 b1_berths b1_pitch b1_loud b1_depth b1_from b1_to b1_mate s_a_length s_a_faultPlace s_a_fault s_a_place s_a_numberPlace s_a_isLawTold f_a_letters s_b1_cars s_b1_sleepers s_b1_couples s_b1_law f_b1_berths f_b1_pitch f_b1_loud f_b1_depth f_b1_from f_b1_to f_b1_mate) [(0, .ref a), (1, .ref b1), (2, .int x2)] 25 [] := by
  unfold B_X6_read_25 at hF
  refine go_iload_n 2 dX6_read_25 rfl rfl ?_
  refine go_sipush (v := (240 : Int32)) dX6_read_26 (by decide) ?_
  refine go_icmp_ge 65 hF dX6_read_29 (by decide) (fun hF => ?_) (fun hF => ?_)
  · refine go_aload_n 0 dX6_read_65 rfl rfl ?_
    refine go_get 6 0 3 hcX6 inX6 (Nat.le_of_ble_eq_true rfl) wd96 rfl rfl dX6_read_66 ?_
    exact go_iret (Om := O_X6_read K a a_letters b1 b1_berths b1_pitch b1_loud b1_depth b1_from b1_to b1_mate s_a_length f_a_letters) hR hF dX6_read_69 rfl rfl (Nat.zero_le _) (Nat.zero_le _) ⟨rfl, rfl⟩
  · refine go_aload_n 0 dX6_read_32 rfl rfl ?_
    refine go_get 6 0 4 hcX6 inX6 (Nat.le_of_ble_eq_true rfl) wd97 rfl rfl dX6_read_33 ?_
    refine go_aload_n 0 dX6_read_36 rfl rfl ?_
    refine go_get 6 0 1 hcX6 inX6 (Nat.le_of_ble_eq_true rfl) wd92 rfl rfl dX6_read_37 ?_
    refine go_icmp_ge 65 hF dX6_read_40 (by decide) (fun hF => ?_) (fun hF => ?_)
    · refine go_aload_n 0 dX6_read_65 rfl rfl ?_
      refine go_get 6 0 3 hcX6 inX6 (Nat.le_of_ble_eq_true rfl) wd96 rfl rfl dX6_read_66 ?_
      exact go_iret (Om := O_X6_read K a a_letters b1 b1_berths b1_pitch b1_loud b1_depth b1_from b1_to b1_mate s_a_length f_a_letters) hR hF dX6_read_69 rfl rfl (Nat.zero_le _) (Nat.zero_le _) ⟨rfl, rfl⟩
    · refine go_aload_n 0 dX6_read_43 rfl rfl ?_
      refine go_get 6 0 3 hcX6 inX6 (Nat.le_of_ble_eq_true rfl) wd96 rfl rfl dX6_read_44 ?_
      refine go_if_ne 65 hF dX6_read_47 (by decide) (fun hF => ?_) (fun hF => ?_)
      · refine go_aload_n 0 dX6_read_65 rfl rfl ?_
        refine go_get 6 0 3 hcX6 inX6 (Nat.le_of_ble_eq_true rfl) wd96 rfl rfl dX6_read_66 ?_
        exact go_iret (Om := O_X6_read K a a_letters b1 b1_berths b1_pitch b1_loud b1_depth b1_from b1_to b1_mate s_a_length f_a_letters) hR hF dX6_read_69 rfl rfl (Nat.zero_le _) (Nat.zero_le _) ⟨rfl, rfl⟩
      · refine go_aload_n 0 dX6_read_50 rfl rfl ?_
        refine go_aload_n 1 dX6_read_51 rfl rfl ?_
        obtain ⟨o3, ho3, hF⟩ := bnd_elim hF
        refine go_callV (As := [.ref b1]) (rest := []) (wr := []) 6 0 hcX6 rfl (kn_X6_readClause K N a a_letters b1 b1_berths b1_pitch b1_loud b1_depth b1_from b1_to b1_mate s_a_length s_a_faultPlace s_a_fault s_a_place s_a_numberPlace s_a_isLawTold f_a_letters s_b1_cars s_b1_sleepers s_b1_couples s_b1_law f_b1_berths f_b1_pitch f_b1_loud f_b1_depth f_b1_from f_b1_to f_b1_mate ho3) ok_X6_readClause ⟨Nat.le_of_ble_eq_true rfl, Nat.le_of_ble_eq_true rfl⟩ ⟨Nat.le_of_ble_eq_true rfl, Nat.le_of_ble_eq_true rfl⟩ wd431 rfl rfl (Nat.le_of_ble_eq_true rfl) dX6_read_52 [0, 1, 2, 3, 4, 5, 6, 7, 8, 9] [] rfl rfl rfl rfl (by decide) (fun r wo hO => ?_)
        obtain ⟨rfl, rfl⟩ := hO
        refine go_ws (ws' := C_X6_read K a a_letters b1 b1_berths b1_pitch b1_loud b1_depth b1_from b1_to b1_mate s_a_length o3.1 o3.2.1 o3.2.2.1 o3.2.2.2.1 o3.2.2.2.2.1 f_a_letters o3.2.2.2.2.2.1 o3.2.2.2.2.2.2.1 o3.2.2.2.2.2.2.2.1 o3.2.2.2.2.2.2.2.2.1 o3.2.2.2.2.2.2.2.2.2.1 o3.2.2.2.2.2.2.2.2.2.2.1 o3.2.2.2.2.2.2.2.2.2.2.2.1 o3.2.2.2.2.2.2.2.2.2.2.2.2.1 o3.2.2.2.2.2.2.2.2.2.2.2.2.2.1 o3.2.2.2.2.2.2.2.2.2.2.2.2.2.2.1 o3.2.2.2.2.2.2.2.2.2.2.2.2.2.2.2) [0, 1, 2, 3, 4, 5, 6, 7, 8, 9] rfl rfl ?_
        refine go_eq (pc' := 55) (st' := []) rfl rfl ?_
        refine go_aload_n 0 dX6_read_55 rfl rfl ?_
        obtain ⟨o4, ho4, hF⟩ := bnd_elim hF
        refine go_callV (As := []) (rest := []) (wr := [(b1, .inr (7, [.int o3.2.2.2.2.2.1, .int o3.2.2.2.2.2.2.1, .int o3.2.2.2.2.2.2.2.1, .int o3.2.2.2.2.2.2.2.2.1, .ref b1_berths, .ref b1_pitch, .ref b1_loud, .ref b1_depth, .ref b1_from, .ref b1_to, .ref b1_mate])), (b1_berths, .inl (kI K, 4, .inl o3.2.2.2.2.2.2.2.2.2.1)), (b1_pitch, .inl (kI K, 8, .inl o3.2.2.2.2.2.2.2.2.2.2.1)), (b1_loud, .inl (kI K, 8, .inl o3.2.2.2.2.2.2.2.2.2.2.2.1)), (b1_depth, .inl (kI K, 8, .inl o3.2.2.2.2.2.2.2.2.2.2.2.2.1)), (b1_from, .inl (kI K, 8, .inl o3.2.2.2.2.2.2.2.2.2.2.2.2.2.1)), (b1_to, .inl (kI K, 8, .inl o3.2.2.2.2.2.2.2.2.2.2.2.2.2.2.1)), (b1_mate, .inl (kI K, 8, .inl o3.2.2.2.2.2.2.2.2.2.2.2.2.2.2.2))]) 6 0 hcX6 rfl (kn_X6_skipBlanks K N a a_letters o3.1 o3.2.1 o3.2.2.2.1 o3.2.2.2.2.1 s_a_length o3.2.2.1 f_a_letters ho4) ok_X6_skipBlanks ⟨Nat.le_of_ble_eq_true rfl, Nat.le_of_ble_eq_true rfl⟩ ⟨Nat.le_of_ble_eq_true rfl, Nat.le_of_ble_eq_true rfl⟩ wd424 rfl rfl (Nat.le_of_ble_eq_true rfl) dX6_read_56 [0, 1] [2, 3, 4, 5, 6, 7, 8, 9] rfl rfl rfl rfl (by decide) (fun r wo hO => ?_)
        obtain ⟨rfl, rfl⟩ := hO
        refine go_ws (ws' := C_X6_read K a a_letters b1 b1_berths b1_pitch b1_loud b1_depth b1_from b1_to b1_mate s_a_length o3.1 o3.2.1 o4 o3.2.2.2.1 o3.2.2.2.2.1 f_a_letters o3.2.2.2.2.2.1 o3.2.2.2.2.2.2.1 o3.2.2.2.2.2.2.2.1 o3.2.2.2.2.2.2.2.2.1 o3.2.2.2.2.2.2.2.2.2.1 o3.2.2.2.2.2.2.2.2.2.2.1 o3.2.2.2.2.2.2.2.2.2.2.2.1 o3.2.2.2.2.2.2.2.2.2.2.2.2.1 o3.2.2.2.2.2.2.2.2.2.2.2.2.2.1 o3.2.2.2.2.2.2.2.2.2.2.2.2.2.2.1 o3.2.2.2.2.2.2.2.2.2.2.2.2.2.2.2) [8, 9, 0, 1, 2, 3, 4, 5, 6, 7] rfl rfl ?_
        refine go_eq (pc' := 59) (st' := []) rfl rfl ?_
        refine go_iinc 2 (fun y => [(2, .int y), (0, .ref a), (1, .ref b1)]) hF dX6_read_59 rfl rfl (Nat.le_of_ble_eq_true rfl) (fun _ => rfl) (fun v5 hF => ?_)
        refine go_goto 25 dX6_read_62 (by decide) ?_
        refine go_loc (L' := [(0, .ref a), (1, .ref b1), (2, .int v5)]) [1, 2, 0] rfl ?_
        exact hk25 o3.1 o3.2.1 o4 o3.2.2.2.1 o3.2.2.2.2.1 o3.2.2.2.2.2.1 o3.2.2.2.2.2.2.1 o3.2.2.2.2.2.2.2.1 o3.2.2.2.2.2.2.2.2.1 o3.2.2.2.2.2.2.2.2.2.1 o3.2.2.2.2.2.2.2.2.2.2.1 o3.2.2.2.2.2.2.2.2.2.2.2.1 o3.2.2.2.2.2.2.2.2.2.2.2.2.1 o3.2.2.2.2.2.2.2.2.2.2.2.2.2.1 o3.2.2.2.2.2.2.2.2.2.2.2.2.2.2.1 o3.2.2.2.2.2.2.2.2.2.2.2.2.2.2.2 v5 hF
theorem GL_X6_read_25 {K : gK} {X : gX} {wi : va_W} {o : Int32 × Int32 × Int32 × Int32 × Int32 × Int32 × Int32 × Int32 × Int32 × Int32 × (Nat → Int32) × (Nat → Int32) × (Nat → Int32) × (Nat → Int32) × (Nat → Int32) × (Nat → Int32) × (Nat → Int32)} (N : Nat) (s_a_length : Int32) (f_a_letters : Nat → Int32) (a : Nat) (a_letters : Nat) (b1 : Nat) (b1_berths : Nat) (b1_pitch : Nat) (b1_loud : Nat) (b1_depth : Nat) (b1_from : Nat) (b1_to : Nat) (b1_mate : Nat) (hR : gR K X M_X6_read wi (O_X6_read K a a_letters b1 b1_berths b1_pitch b1_loud b1_depth b1_from b1_to b1_mate s_a_length f_a_letters o))  : ∀ (fuel : Nat) (s_a_faultPlace : Int32) (s_a_fault : Int32) (s_a_place : Int32) (s_a_numberPlace : Int32) (s_a_isLawTold : Int32) (s_b1_cars : Int32) (s_b1_sleepers : Int32) (s_b1_couples : Int32) (s_b1_law : Int32) (f_b1_berths : Nat → Int32) (f_b1_pitch : Nat → Int32) (f_b1_loud : Nat → Int32) (f_b1_depth : Nat → Int32) (f_b1_from : Nat → Int32) (f_b1_to : Nat → Int32) (f_b1_mate : Nat → Int32) (x2 : Int32), F_X6_read_25 N s_a_length f_a_letters  fuel s_a_faultPlace s_a_fault s_a_place s_a_numberPlace s_a_isLawTold s_b1_cars s_b1_sleepers s_b1_couples s_b1_law f_b1_berths f_b1_pitch f_b1_loud f_b1_depth f_b1_from f_b1_to f_b1_mate x2 = some o → Go K X M_X6_read 0 0 (C_X6_read K a a_letters b1 b1_berths b1_pitch b1_loud b1_depth b1_from b1_to b1_mate s_a_length s_a_faultPlace s_a_fault s_a_place s_a_numberPlace s_a_isLawTold f_a_letters s_b1_cars s_b1_sleepers s_b1_couples s_b1_law f_b1_berths f_b1_pitch f_b1_loud f_b1_depth f_b1_from f_b1_to f_b1_mate) [(0, .ref a), (1, .ref b1), (2, .int x2)] 25 [] :=
  lq17_elim (fun self hs s_a_faultPlace s_a_fault s_a_place s_a_numberPlace s_a_isLawTold s_b1_cars s_b1_sleepers s_b1_couples s_b1_law f_b1_berths f_b1_pitch f_b1_loud f_b1_depth f_b1_from f_b1_to f_b1_mate x2 hF => G_X6_read_25 N s_a_length f_a_letters a a_letters b1 b1_berths b1_pitch b1_loud b1_depth b1_from b1_to b1_mate hR  self hs s_a_faultPlace s_a_fault s_a_place s_a_numberPlace s_a_isLawTold s_b1_cars s_b1_sleepers s_b1_couples s_b1_law f_b1_berths f_b1_pitch f_b1_loud f_b1_depth f_b1_from f_b1_to f_b1_mate x2 hF)
noncomputable def F_X6_read (N : Nat) (s_a_length : Int32) (s_a_faultPlace : Int32) (s_a_fault : Int32) (s_a_place : Int32) (s_a_numberPlace : Int32) (s_a_isLawTold : Int32) (f_a_letters : Nat → Int32) (s_b1_cars : Int32) (s_b1_sleepers : Int32) (s_b1_couples : Int32) (s_b1_law : Int32) (f_b1_berths : Nat → Int32) (f_b1_pitch : Nat → Int32) (f_b1_loud : Nat → Int32) (f_b1_depth : Nat → Int32) (f_b1_from : Nat → Int32) (f_b1_to : Nat → Int32) (f_b1_mate : Nat → Int32) : Option (Int32 × Int32 × Int32 × Int32 × Int32 × Int32 × Int32 × Int32 × Int32 × Int32 × (Nat → Int32) × (Nat → Int32) × (Nat → Int32) × (Nat → Int32) × (Nat → Int32) × (Nat → Int32) × (Nat → Int32)) := bnd (F_X7_clear N s_b1_cars s_b1_sleepers s_b1_couples s_b1_law f_b1_mate) (fun o1 => bnd (F_X6_skipBlanks N s_a_length (0 : Int32) f_a_letters) (fun o2 => F_X6_read_25 N s_a_length f_a_letters N s_a_faultPlace (0 : Int32) o2 s_a_numberPlace (0 : Int32) o1.1 o1.2.1 o1.2.2.1 o1.2.2.2.1 f_b1_berths f_b1_pitch f_b1_loud f_b1_depth f_b1_from f_b1_to o1.2.2.2.2 (0 : Int32)))
set_option maxHeartbeats 4000000 in
theorem kn_X6_read (K : gK) (N : Nat) (a : Nat) (a_letters : Nat) (b1 : Nat) (b1_berths : Nat) (b1_pitch : Nat) (b1_loud : Nat) (b1_depth : Nat) (b1_from : Nat) (b1_to : Nat) (b1_mate : Nat) (s_a_length : Int32) (s_a_faultPlace : Int32) (s_a_fault : Int32) (s_a_place : Int32) (s_a_numberPlace : Int32) (s_a_isLawTold : Int32) (f_a_letters : Nat → Int32) (s_b1_cars : Int32) (s_b1_sleepers : Int32) (s_b1_couples : Int32) (s_b1_law : Int32) (f_b1_berths : Nat → Int32) (f_b1_pitch : Nat → Int32) (f_b1_loud : Nat → Int32) (f_b1_depth : Nat → Int32) (f_b1_from : Nat → Int32) (f_b1_to : Nat → Int32) (f_b1_mate : Nat → Int32) {o : Int32 × Int32 × Int32 × Int32 × Int32 × Int32 × Int32 × Int32 × Int32 × Int32 × (Nat → Int32) × (Nat → Int32) × (Nat → Int32) × (Nat → Int32) × (Nat → Int32) × (Nat → Int32) × (Nat → Int32)} (hF : F_X6_read N s_a_length s_a_faultPlace s_a_fault s_a_place s_a_numberPlace s_a_isLawTold f_a_letters s_b1_cars s_b1_sleepers s_b1_couples s_b1_law f_b1_berths f_b1_pitch f_b1_loud f_b1_depth f_b1_from f_b1_to f_b1_mate = some o) : Kn K M_X6_read [.ref a, .ref b1] (C_X6_read K a a_letters b1 b1_berths b1_pitch b1_loud b1_depth b1_from b1_to b1_mate s_a_length s_a_faultPlace s_a_fault s_a_place s_a_numberPlace s_a_isLawTold f_a_letters s_b1_cars s_b1_sleepers s_b1_couples s_b1_law f_b1_berths f_b1_pitch f_b1_loud f_b1_depth f_b1_from f_b1_to f_b1_mate) (O_X6_read K a a_letters b1 b1_berths b1_pitch b1_loud b1_depth b1_from b1_to b1_mate s_a_length f_a_letters o) := by
  refine kn_of (by decide +kernel) (Nat.le_of_ble_eq_true rfl) (fun X hR => ?_)
  refine go_loc (L' := [(0, .ref a), (1, .ref b1)]) [0, 1] rfl ?_
  unfold F_X6_read at hF
  refine go_aload_n 1 dX6_read_0 rfl rfl ?_
  obtain ⟨o1, ho1, hF⟩ := bnd_elim hF
  refine go_callV (As := []) (rest := []) (wr := [(a, .inr (6, [.ref a_letters, .int s_a_length, .int s_a_faultPlace, .int s_a_fault, .int s_a_place, .int s_a_numberPlace, .int s_a_isLawTold])), (a_letters, .inl (kI K, 240, .inl f_a_letters)), (b1_berths, .inl (kI K, 4, .inl f_b1_berths)), (b1_pitch, .inl (kI K, 8, .inl f_b1_pitch)), (b1_loud, .inl (kI K, 8, .inl f_b1_loud)), (b1_depth, .inl (kI K, 8, .inl f_b1_depth)), (b1_from, .inl (kI K, 8, .inl f_b1_from)), (b1_to, .inl (kI K, 8, .inl f_b1_to))]) 7 2 hcX7 rfl (kn_X7_clear K N b1 b1_mate b1_berths b1_pitch b1_loud b1_depth b1_from b1_to s_b1_cars s_b1_sleepers s_b1_couples s_b1_law f_b1_mate ho1) ok_X7_clear ⟨Nat.le_of_ble_eq_true rfl, Nat.le_of_ble_eq_true rfl⟩ ⟨Nat.le_of_ble_eq_true rfl, Nat.le_of_ble_eq_true rfl⟩ wd423 rfl rfl (Nat.le_of_ble_eq_true rfl) dX6_read_1 [2, 9] [0, 1, 3, 4, 5, 6, 7, 8] rfl rfl rfl rfl (by decide) (fun r wo hO => ?_)
  obtain ⟨rfl, rfl⟩ := hO
  refine go_ws (ws' := C_X6_read K a a_letters b1 b1_berths b1_pitch b1_loud b1_depth b1_from b1_to b1_mate s_a_length s_a_faultPlace s_a_fault s_a_place s_a_numberPlace s_a_isLawTold f_a_letters o1.1 o1.2.1 o1.2.2.1 o1.2.2.2.1 f_b1_berths f_b1_pitch f_b1_loud f_b1_depth f_b1_from f_b1_to o1.2.2.2.2) [0, 1, 8, 2, 3, 4, 5, 6, 7, 9] rfl rfl ?_
  refine go_eq (pc' := 4) (st' := []) rfl rfl ?_
  refine go_aload_n 0 dX6_read_4 rfl rfl ?_
  refine go_iconst (v := (0 : Int32)) dX6_read_5 (by decide) ?_
  refine go_put 6 0 3 (C_X6_read K a a_letters b1 b1_berths b1_pitch b1_loud b1_depth b1_from b1_to b1_mate s_a_length s_a_faultPlace (0 : Int32) s_a_place s_a_numberPlace s_a_isLawTold f_a_letters o1.1 o1.2.1 o1.2.2.1 o1.2.2.2.1 f_b1_berths f_b1_pitch f_b1_loud f_b1_depth f_b1_from f_b1_to o1.2.2.2.2) hcX6 inX6 tyX6_ok nmX6 (Nat.le_of_ble_eq_true rfl) wd96 rfl rfl rfl rfl (Nat.le_of_ble_eq_true rfl) rfl dX6_read_6 ?_
  refine go_aload_n 0 dX6_read_9 rfl rfl ?_
  refine go_iconst (v := (0 : Int32)) dX6_read_10 (by decide) ?_
  refine go_put 6 0 4 (C_X6_read K a a_letters b1 b1_berths b1_pitch b1_loud b1_depth b1_from b1_to b1_mate s_a_length s_a_faultPlace (0 : Int32) (0 : Int32) s_a_numberPlace s_a_isLawTold f_a_letters o1.1 o1.2.1 o1.2.2.1 o1.2.2.2.1 f_b1_berths f_b1_pitch f_b1_loud f_b1_depth f_b1_from f_b1_to o1.2.2.2.2) hcX6 inX6 tyX6_ok nmX6 (Nat.le_of_ble_eq_true rfl) wd97 rfl rfl rfl rfl (Nat.le_of_ble_eq_true rfl) rfl dX6_read_11 ?_
  refine go_aload_n 0 dX6_read_14 rfl rfl ?_
  refine go_iconst (v := (0 : Int32)) dX6_read_15 (by decide) ?_
  refine go_put 6 0 6 (C_X6_read K a a_letters b1 b1_berths b1_pitch b1_loud b1_depth b1_from b1_to b1_mate s_a_length s_a_faultPlace (0 : Int32) (0 : Int32) s_a_numberPlace (0 : Int32) f_a_letters o1.1 o1.2.1 o1.2.2.1 o1.2.2.2.1 f_b1_berths f_b1_pitch f_b1_loud f_b1_depth f_b1_from f_b1_to o1.2.2.2.2) hcX6 inX6 tyX6_ok nmX6 (Nat.le_of_ble_eq_true rfl) wd99 rfl rfl rfl rfl (Nat.le_of_ble_eq_true rfl) rfl dX6_read_16 ?_
  refine go_aload_n 0 dX6_read_19 rfl rfl ?_
  obtain ⟨o2, ho2, hF⟩ := bnd_elim hF
  refine go_callV (As := []) (rest := []) (wr := [(b1, .inr (7, [.int o1.1, .int o1.2.1, .int o1.2.2.1, .int o1.2.2.2.1, .ref b1_berths, .ref b1_pitch, .ref b1_loud, .ref b1_depth, .ref b1_from, .ref b1_to, .ref b1_mate])), (b1_berths, .inl (kI K, 4, .inl f_b1_berths)), (b1_pitch, .inl (kI K, 8, .inl f_b1_pitch)), (b1_loud, .inl (kI K, 8, .inl f_b1_loud)), (b1_depth, .inl (kI K, 8, .inl f_b1_depth)), (b1_from, .inl (kI K, 8, .inl f_b1_from)), (b1_to, .inl (kI K, 8, .inl f_b1_to)), (b1_mate, .inl (kI K, 8, .inl o1.2.2.2.2))]) 6 0 hcX6 rfl (kn_X6_skipBlanks K N a a_letters s_a_faultPlace (0 : Int32) s_a_numberPlace (0 : Int32) s_a_length (0 : Int32) f_a_letters ho2) ok_X6_skipBlanks ⟨Nat.le_of_ble_eq_true rfl, Nat.le_of_ble_eq_true rfl⟩ ⟨Nat.le_of_ble_eq_true rfl, Nat.le_of_ble_eq_true rfl⟩ wd424 rfl rfl (Nat.le_of_ble_eq_true rfl) dX6_read_20 [0, 1] [2, 3, 4, 5, 6, 7, 8, 9] rfl rfl rfl rfl (by decide) (fun r wo hO => ?_)
  obtain ⟨rfl, rfl⟩ := hO
  refine go_ws (ws' := C_X6_read K a a_letters b1 b1_berths b1_pitch b1_loud b1_depth b1_from b1_to b1_mate s_a_length s_a_faultPlace (0 : Int32) o2 s_a_numberPlace (0 : Int32) f_a_letters o1.1 o1.2.1 o1.2.2.1 o1.2.2.2.1 f_b1_berths f_b1_pitch f_b1_loud f_b1_depth f_b1_from f_b1_to o1.2.2.2.2) [8, 9, 0, 1, 2, 3, 4, 5, 6, 7] rfl rfl ?_
  refine go_eq (pc' := 23) (st' := []) rfl rfl ?_
  refine go_iconst (v := (0 : Int32)) dX6_read_23 (by decide) ?_
  refine go_istore_n [(2, .int (0 : Int32)), (0, .ref a), (1, .ref b1)] dX6_read_24 rfl (Nat.le_of_ble_eq_true rfl) rfl ?_
  refine go_loc (L' := [(0, .ref a), (1, .ref b1), (2, .int (0 : Int32))]) [1, 2, 0] rfl ?_
  exact GL_X6_read_25 N s_a_length f_a_letters a a_letters b1 b1_berths b1_pitch b1_loud b1_depth b1_from b1_to b1_mate hR  N s_a_faultPlace (0 : Int32) o2 s_a_numberPlace (0 : Int32) o1.1 o1.2.1 o1.2.2.1 o1.2.2.2.1 f_b1_berths f_b1_pitch f_b1_loud f_b1_depth f_b1_from f_b1_to o1.2.2.2.2 (0 : Int32) hF
theorem ok_X6_read : gOkV M_X6_read 1 := ⟨⟨wd422, wd65, by decide +kernel, by decide +kernel, by decide +kernel⟩, wd420, wd421⟩
