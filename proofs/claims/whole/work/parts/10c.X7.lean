def C_X7_clear (K : gK) (a : Nat) (a_mate : Nat) (a_berths : Nat) (a_pitch : Nat) (a_loud : Nat) (a_depth : Nat) (a_from : Nat) (a_to : Nat) (s_a_cars : Int32) (s_a_sleepers : Int32) (s_a_couples : Int32) (s_a_law : Int32) (f_a_mate : Nat → Int32) : va_W := [(a, .inr (7, [.int s_a_cars, .int s_a_sleepers, .int s_a_couples, .int s_a_law, .ref a_berths, .ref a_pitch, .ref a_loud, .ref a_depth, .ref a_from, .ref a_to, .ref a_mate])), (a_mate, .inl (kI K, 8, .inl f_a_mate))]
def M_X7_clear : gM := (yX7_clear, cX7_clear, 1, none, { frames := 1, cells := 0, slots := 0, locals := 23 })
def O_X7_clear (K : gK) (a : Nat) (a_mate : Nat) (a_berths : Nat) (a_pitch : Nat) (a_loud : Nat) (a_depth : Nat) (a_from : Nat) (a_to : Nat) (o : Int32 × Int32 × Int32 × Int32 × (Nat → Int32)) : Option Value → va_W → Prop := fun r w => r = none ∧ w = C_X7_clear K a a_mate a_berths a_pitch a_loud a_depth a_from a_to o.1 o.2.1 o.2.2.1 o.2.2.2.1 o.2.2.2.2
noncomputable def F_X7_clear (N : Nat) (s_a_cars : Int32) (s_a_sleepers : Int32) (s_a_couples : Int32) (s_a_law : Int32) (f_a_mate : Nat → Int32) : Option (Int32 × Int32 × Int32 × Int32 × (Nat → Int32)) := bnd (F_J7_fill_53178 N 8 f_a_mate (-1 : Int32)) (fun o1 => some ((0 : Int32), (0 : Int32), (0 : Int32), (57 : Int32), o1))
set_option maxHeartbeats 4000000 in
theorem kn_X7_clear (K : gK) (N : Nat) (a : Nat) (a_mate : Nat) (a_berths : Nat) (a_pitch : Nat) (a_loud : Nat) (a_depth : Nat) (a_from : Nat) (a_to : Nat) (s_a_cars : Int32) (s_a_sleepers : Int32) (s_a_couples : Int32) (s_a_law : Int32) (f_a_mate : Nat → Int32) {o : Int32 × Int32 × Int32 × Int32 × (Nat → Int32)} (hF : F_X7_clear N s_a_cars s_a_sleepers s_a_couples s_a_law f_a_mate = some o) : Kn K M_X7_clear [.ref a] (C_X7_clear K a a_mate a_berths a_pitch a_loud a_depth a_from a_to s_a_cars s_a_sleepers s_a_couples s_a_law f_a_mate) (O_X7_clear K a a_mate a_berths a_pitch a_loud a_depth a_from a_to o) := by
  refine kn_of (by decide +kernel) (Nat.le_of_ble_eq_true rfl) (fun X hR => ?_)
  refine go_loc (L' := [(0, .ref a)]) [0] rfl ?_
  unfold F_X7_clear at hF
  refine go_aload_n 0 dX7_clear_0 rfl rfl ?_
  refine go_iconst (v := (0 : Int32)) dX7_clear_1 (by decide) ?_
  refine go_put 7 0 0 (C_X7_clear K a a_mate a_berths a_pitch a_loud a_depth a_from a_to (0 : Int32) s_a_sleepers s_a_couples s_a_law f_a_mate) hcX7 inX7 tyX7_ok nmX7 (Nat.le_of_ble_eq_true rfl) wd129 rfl rfl rfl rfl (Nat.le_of_ble_eq_true rfl) rfl dX7_clear_2 ?_
  refine go_aload_n 0 dX7_clear_5 rfl rfl ?_
  refine go_iconst (v := (0 : Int32)) dX7_clear_6 (by decide) ?_
  refine go_put 7 0 1 (C_X7_clear K a a_mate a_berths a_pitch a_loud a_depth a_from a_to (0 : Int32) (0 : Int32) s_a_couples s_a_law f_a_mate) hcX7 inX7 tyX7_ok nmX7 (Nat.le_of_ble_eq_true rfl) wd135 rfl rfl rfl rfl (Nat.le_of_ble_eq_true rfl) rfl dX7_clear_7 ?_
  refine go_aload_n 0 dX7_clear_10 rfl rfl ?_
  refine go_iconst (v := (0 : Int32)) dX7_clear_11 (by decide) ?_
  refine go_put 7 0 2 (C_X7_clear K a a_mate a_berths a_pitch a_loud a_depth a_from a_to (0 : Int32) (0 : Int32) (0 : Int32) s_a_law f_a_mate) hcX7 inX7 tyX7_ok nmX7 (Nat.le_of_ble_eq_true rfl) wd140 rfl rfl rfl rfl (Nat.le_of_ble_eq_true rfl) rfl dX7_clear_12 ?_
  refine go_aload_n 0 dX7_clear_15 rfl rfl ?_
  refine go_bipush (v := (57 : Int32)) dX7_clear_16 (by decide) ?_
  refine go_put 7 0 3 (C_X7_clear K a a_mate a_berths a_pitch a_loud a_depth a_from a_to (0 : Int32) (0 : Int32) (0 : Int32) (57 : Int32) f_a_mate) hcX7 inX7 tyX7_ok nmX7 (Nat.le_of_ble_eq_true rfl) wd143 rfl rfl rfl rfl (Nat.le_of_ble_eq_true rfl) rfl dX7_clear_18 ?_
  refine go_aload_n 0 dX7_clear_21 rfl rfl ?_
  refine go_get 7 0 10 hcX7 inX7 (Nat.le_of_ble_eq_true rfl) wd170 rfl rfl dX7_clear_22 ?_
  refine go_iconst (v := (-1 : Int32)) dX7_clear_25 (by decide) ?_
  obtain ⟨o1, ho1, hF⟩ := bnd_elim hF
  refine go_callS (As := [.ref a_mate, .int (-1 : Int32)]) (rest := []) (wr := [(a, .inr (7, [.int (0 : Int32), .int (0 : Int32), .int (0 : Int32), .int (57 : Int32), .ref a_berths, .ref a_pitch, .ref a_loud, .ref a_depth, .ref a_from, .ref a_to, .ref a_mate]))]) (kn_J7_fill_53178 K N a_mate 8 f_a_mate (-1 : Int32) ho1) ok_J7_fill_53178 ⟨Nat.le_of_ble_eq_true rfl, Nat.le_of_ble_eq_true rfl⟩ ⟨Nat.le_of_ble_eq_true rfl, Nat.le_of_ble_eq_true rfl⟩ wd126 rfl rfl (Nat.le_of_ble_eq_true rfl) dX7_clear_26 [1] [0] rfl rfl rfl rfl (by decide) (fun r wo hO => ?_)
  obtain ⟨rfl, rfl⟩ := hO
  refine go_ws (ws' := C_X7_clear K a a_mate a_berths a_pitch a_loud a_depth a_from a_to (0 : Int32) (0 : Int32) (0 : Int32) (57 : Int32) o1) [0, 1] rfl rfl ?_
  refine go_eq (pc' := 29) (st' := []) rfl rfl ?_
  exact go_vret (Om := O_X7_clear K a a_mate a_berths a_pitch a_loud a_depth a_from a_to) hR hF dX7_clear_29 rfl (Nat.zero_le _) (Nat.zero_le _) ⟨rfl, rfl⟩
theorem ok_X7_clear : gOkV M_X7_clear 0 := ⟨⟨wd125, wd66, by decide +kernel, by decide +kernel, by decide +kernel⟩, wd123, wd124⟩
