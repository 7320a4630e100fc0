def C_X5_append (K : gK) (a : Nat) (a_codes : Nat) (a_left : Nat) (a_right : Nat) (a_sets : Nat) (s_a_many : Int32) (f_a_codes : Nat → Int32) (f_a_left : Nat → Int32) (f_a_right : Nat → Int32) (f_a_sets : Nat → Int32) : va_W := [(a, .inr (5, [.int s_a_many, .ref a_codes, .ref a_left, .ref a_right, .ref a_sets])), (a_codes, .inl (kI K, 52, .inl f_a_codes)), (a_left, .inl (kI K, 52, .inl f_a_left)), (a_right, .inl (kI K, 52, .inl f_a_right)), (a_sets, .inl (kI K, 52, .inl f_a_sets))]
def M_X5_append : gM := (yX5_append, cX5_append, 5, none, { frames := 1, cells := 0, slots := 0, locals := 22 })
def O_X5_append (K : gK) (a : Nat) (a_codes : Nat) (a_left : Nat) (a_right : Nat) (a_sets : Nat) (o : Int32 × (Nat → Int32) × (Nat → Int32) × (Nat → Int32) × (Nat → Int32)) : Option Value → va_W → Prop := fun r w => r = none ∧ w = C_X5_append K a a_codes a_left a_right a_sets o.1 o.2.1 o.2.2.1 o.2.2.2.1 o.2.2.2.2
noncomputable def F_X5_append (s_a_many : Int32) (f_a_codes : Nat → Int32) (f_a_left : Nat → Int32) (f_a_right : Nat → Int32) (f_a_sets : Nat → Int32) (p1 : Int32) (p2 : Int32) (p3 : Int32) (p4 : Int32) : Option (Int32 × (Nat → Int32) × (Nat → Int32) × (Nat → Int32) × (Nat → Int32)) := bnd (F_X8_lay 52 f_a_codes s_a_many p1) (fun o1 => bnd (F_X8_lay 52 f_a_left s_a_many p2) (fun o2 => bnd (F_X8_lay 52 f_a_right s_a_many p3) (fun o3 => bnd (F_X8_lay 52 f_a_sets s_a_many p4) (fun o4 => nm (s_a_many + (1 : Int32)) (fun v5 => some (v5, o1, o2, o3, o4))))))
set_option maxHeartbeats 4000000 in
theorem kn_X5_append (K : gK) (a : Nat) (a_codes : Nat) (a_left : Nat) (a_right : Nat) (a_sets : Nat) (s_a_many : Int32) (f_a_codes : Nat → Int32) (f_a_left : Nat → Int32) (f_a_right : Nat → Int32) (f_a_sets : Nat → Int32) (p1 : Int32) (p2 : Int32) (p3 : Int32) (p4 : Int32) {o : Int32 × (Nat → Int32) × (Nat → Int32) × (Nat → Int32) × (Nat → Int32)} (hF : F_X5_append s_a_many f_a_codes f_a_left f_a_right f_a_sets p1 p2 p3 p4 = some o) : Kn K M_X5_append [.ref a, .int p1, .int p2, .int p3, .int p4] (C_X5_append K a a_codes a_left a_right a_sets s_a_many f_a_codes f_a_left f_a_right f_a_sets) (O_X5_append K a a_codes a_left a_right a_sets o) := by
  refine kn_of (by decide +kernel) (Nat.le_of_ble_eq_true rfl) (fun X hR => ?_)
  refine go_loc (L' := [(0, .ref a), (1, .int p1), (2, .int p2), (3, .int p3), (4, .int p4)]) [0, 1, 2, 3, 4] rfl ?_
  unfold F_X5_append at hF
  refine go_aload_n 0 dX5_append_0 rfl rfl ?_
  refine go_get 5 0 1 hcX5 inX5 (Nat.le_of_ble_eq_true rfl) wd314 rfl rfl dX5_append_1 ?_
  refine go_aload_n 0 dX5_append_4 rfl rfl ?_
  refine go_get 5 0 0 hcX5 inX5 (Nat.le_of_ble_eq_true rfl) wd312 rfl rfl dX5_append_5 ?_
  refine go_iload_n 1 dX5_append_8 rfl rfl ?_
  obtain ⟨o1, ho1, hF⟩ := bnd_elim hF
  refine go_callSN (As := [.ref a_codes, .int s_a_many, .int p1]) (rest := []) (wr := [(a, .inr (5, [.int s_a_many, .ref a_codes, .ref a_left, .ref a_right, .ref a_sets])), (a_left, .inl (kI K, 52, .inl f_a_left)), (a_right, .inl (kI K, 52, .inl f_a_right)), (a_sets, .inl (kI K, 52, .inl f_a_sets))]) (kn_X8_lay K a_codes 52 f_a_codes s_a_many p1 ho1) ok_X8_lay ⟨Nat.le_of_ble_eq_true rfl, Nat.le_of_ble_eq_true rfl⟩ ⟨Nat.le_of_ble_eq_true rfl, Nat.le_of_ble_eq_true rfl⟩ ns19 rfl rfl (Nat.le_of_ble_eq_true rfl) dX5_append_9 [1] [0, 2, 3, 4] rfl rfl rfl rfl (by decide) (fun r wo hO => ?_)
  obtain ⟨rfl, rfl⟩ := hO
  refine go_ws (ws' := C_X5_append K a a_codes a_left a_right a_sets s_a_many o1 f_a_left f_a_right f_a_sets) [0, 4, 1, 2, 3] rfl rfl ?_
  refine go_eq (pc' := 12) (st' := []) rfl rfl ?_
  refine go_aload_n 0 dX5_append_12 rfl rfl ?_
  refine go_get 5 0 2 hcX5 inX5 (Nat.le_of_ble_eq_true rfl) wd316 rfl rfl dX5_append_13 ?_
  refine go_aload_n 0 dX5_append_16 rfl rfl ?_
  refine go_get 5 0 0 hcX5 inX5 (Nat.le_of_ble_eq_true rfl) wd312 rfl rfl dX5_append_17 ?_
  refine go_iload_n 2 dX5_append_20 rfl rfl ?_
  obtain ⟨o2, ho2, hF⟩ := bnd_elim hF
  refine go_callSN (As := [.ref a_left, .int s_a_many, .int p2]) (rest := []) (wr := [(a, .inr (5, [.int s_a_many, .ref a_codes, .ref a_left, .ref a_right, .ref a_sets])), (a_codes, .inl (kI K, 52, .inl o1)), (a_right, .inl (kI K, 52, .inl f_a_right)), (a_sets, .inl (kI K, 52, .inl f_a_sets))]) (kn_X8_lay K a_left 52 f_a_left s_a_many p2 ho2) ok_X8_lay ⟨Nat.le_of_ble_eq_true rfl, Nat.le_of_ble_eq_true rfl⟩ ⟨Nat.le_of_ble_eq_true rfl, Nat.le_of_ble_eq_true rfl⟩ ns19 rfl rfl (Nat.le_of_ble_eq_true rfl) dX5_append_21 [2] [0, 1, 3, 4] rfl rfl rfl rfl (by decide) (fun r wo hO => ?_)
  obtain ⟨rfl, rfl⟩ := hO
  refine go_ws (ws' := C_X5_append K a a_codes a_left a_right a_sets s_a_many o1 o2 f_a_right f_a_sets) [0, 1, 4, 2, 3] rfl rfl ?_
  refine go_eq (pc' := 24) (st' := []) rfl rfl ?_
  refine go_aload_n 0 dX5_append_24 rfl rfl ?_
  refine go_get 5 0 3 hcX5 inX5 (Nat.le_of_ble_eq_true rfl) wd317 rfl rfl dX5_append_25 ?_
  refine go_aload_n 0 dX5_append_28 rfl rfl ?_
  refine go_get 5 0 0 hcX5 inX5 (Nat.le_of_ble_eq_true rfl) wd312 rfl rfl dX5_append_29 ?_
  refine go_iload_n 3 dX5_append_32 rfl rfl ?_
  obtain ⟨o3, ho3, hF⟩ := bnd_elim hF
  refine go_callSN (As := [.ref a_right, .int s_a_many, .int p3]) (rest := []) (wr := [(a, .inr (5, [.int s_a_many, .ref a_codes, .ref a_left, .ref a_right, .ref a_sets])), (a_codes, .inl (kI K, 52, .inl o1)), (a_left, .inl (kI K, 52, .inl o2)), (a_sets, .inl (kI K, 52, .inl f_a_sets))]) (kn_X8_lay K a_right 52 f_a_right s_a_many p3 ho3) ok_X8_lay ⟨Nat.le_of_ble_eq_true rfl, Nat.le_of_ble_eq_true rfl⟩ ⟨Nat.le_of_ble_eq_true rfl, Nat.le_of_ble_eq_true rfl⟩ ns19 rfl rfl (Nat.le_of_ble_eq_true rfl) dX5_append_33 [3] [0, 1, 2, 4] rfl rfl rfl rfl (by decide) (fun r wo hO => ?_)
  obtain ⟨rfl, rfl⟩ := hO
  refine go_ws (ws' := C_X5_append K a a_codes a_left a_right a_sets s_a_many o1 o2 o3 f_a_sets) [0, 1, 2, 4, 3] rfl rfl ?_
  refine go_eq (pc' := 36) (st' := []) rfl rfl ?_
  refine go_aload_n 0 dX5_append_36 rfl rfl ?_
  refine go_get 5 0 4 hcX5 inX5 (Nat.le_of_ble_eq_true rfl) wd318 rfl rfl dX5_append_37 ?_
  refine go_aload_n 0 dX5_append_40 rfl rfl ?_
  refine go_get 5 0 0 hcX5 inX5 (Nat.le_of_ble_eq_true rfl) wd312 rfl rfl dX5_append_41 ?_
  refine go_iload 4 dX5_append_44 rfl ?_
  obtain ⟨o4, ho4, hF⟩ := bnd_elim hF
  refine go_callSN (As := [.ref a_sets, .int s_a_many, .int p4]) (rest := []) (wr := [(a, .inr (5, [.int s_a_many, .ref a_codes, .ref a_left, .ref a_right, .ref a_sets])), (a_codes, .inl (kI K, 52, .inl o1)), (a_left, .inl (kI K, 52, .inl o2)), (a_right, .inl (kI K, 52, .inl o3))]) (kn_X8_lay K a_sets 52 f_a_sets s_a_many p4 ho4) ok_X8_lay ⟨Nat.le_of_ble_eq_true rfl, Nat.le_of_ble_eq_true rfl⟩ ⟨Nat.le_of_ble_eq_true rfl, Nat.le_of_ble_eq_true rfl⟩ ns19 rfl rfl (Nat.le_of_ble_eq_true rfl) dX5_append_46 [4] [0, 1, 2, 3] rfl rfl rfl rfl (by decide) (fun r wo hO => ?_)
  obtain ⟨rfl, rfl⟩ := hO
  refine go_ws (ws' := C_X5_append K a a_codes a_left a_right a_sets s_a_many o1 o2 o3 o4) [0, 1, 2, 3, 4] rfl rfl ?_
  refine go_eq (pc' := 49) (st' := []) rfl rfl ?_
  refine go_aload_n 0 dX5_append_49 rfl rfl ?_
  refine go_dup dX5_append_50 rfl ?_
  refine go_get 5 0 0 hcX5 inX5 (Nat.le_of_ble_eq_true rfl) wd312 rfl rfl dX5_append_51 ?_
  refine go_iconst (v := (1 : Int32)) dX5_append_54 (by decide) ?_
  refine go_iadd dX5_append_55 ?_
  refine go_nmi hF (fun v5 hF => ?_)
  refine go_put 5 0 0 (C_X5_append K a a_codes a_left a_right a_sets v5 o1 o2 o3 o4) hcX5 inX5 tyX5_ok nmX5 (Nat.le_of_ble_eq_true rfl) wd312 rfl rfl rfl rfl (Nat.le_of_ble_eq_true rfl) rfl dX5_append_56 ?_
  exact go_vret (Om := O_X5_append K a a_codes a_left a_right a_sets) hR hF dX5_append_59 rfl (Nat.zero_le _) (Nat.zero_le _) ⟨rfl, rfl⟩
theorem ok_X5_append : gOkV M_X5_append 4 := ⟨⟨wd707, wd74, by decide +kernel, by decide +kernel, by decide +kernel⟩, wd706, wd24⟩
def C_X5_list (K : gK) (a : Nat) (a_codes : Nat) (a_left : Nat) (a_right : Nat) (a_sets : Nat) (b1 : Nat) (b1_berths : Nat) (b2 : Nat) (b1_pitch : Nat) (b1_loud : Nat) (b1_depth : Nat) (b1_from : Nat) (b1_to : Nat) (b1_mate : Nat) (n_b2 : Nat) (s_a_many : Int32) (f_a_codes : Nat → Int32) (f_a_left : Nat → Int32) (f_a_right : Nat → Int32) (f_a_sets : Nat → Int32) (s_b1_cars : Int32) (s_b1_sleepers : Int32) (s_b1_couples : Int32) (s_b1_law : Int32) (f_b1_berths : Nat → Int32) (f_b2 : Nat → Int32) : va_W := [(a, .inr (5, [.int s_a_many, .ref a_codes, .ref a_left, .ref a_right, .ref a_sets])), (a_codes, .inl (kI K, 52, .inl f_a_codes)), (a_left, .inl (kI K, 52, .inl f_a_left)), (a_right, .inl (kI K, 52, .inl f_a_right)), (a_sets, .inl (kI K, 52, .inl f_a_sets)), (b1, .inr (7, [.int s_b1_cars, .int s_b1_sleepers, .int s_b1_couples, .int s_b1_law, .ref b1_berths, .ref b1_pitch, .ref b1_loud, .ref b1_depth, .ref b1_from, .ref b1_to, .ref b1_mate])), (b1_berths, .inl (kI K, 4, .inl f_b1_berths)), (b2, .inl (kI K, n_b2, .inl f_b2))]
def M_X5_list : gM := (yX5_list, cX5_list, 7, none, { frames := 2, cells := 0, slots := 0, locals := 46 })
def O_X5_list (K : gK) (a : Nat) (a_codes : Nat) (a_left : Nat) (a_right : Nat) (a_sets : Nat) (b1 : Nat) (b1_berths : Nat) (b2 : Nat) (b1_pitch : Nat) (b1_loud : Nat) (b1_depth : Nat) (b1_from : Nat) (b1_to : Nat) (b1_mate : Nat) (n_b2 : Nat) (s_b1_couples : Int32) (s_b1_law : Int32) (s_b1_cars : Int32) (s_b1_sleepers : Int32) (f_b1_berths : Nat → Int32) (f_b2 : Nat → Int32) (o : Int32 × (Nat → Int32) × (Nat → Int32) × (Nat → Int32) × (Nat → Int32)) : Option Value → va_W → Prop := fun r w => r = none ∧ w = C_X5_list K a a_codes a_left a_right a_sets b1 b1_berths b2 b1_pitch b1_loud b1_depth b1_from b1_to b1_mate n_b2 o.1 o.2.1 o.2.2.1 o.2.2.2.1 o.2.2.2.2 s_b1_cars s_b1_sleepers s_b1_couples s_b1_law f_b1_berths f_b2
noncomputable def B_X5_list_102 (N : Nat) (n_b2 : Nat) (s_b1_cars : Int32) (s_b1_sleepers : Int32) (f_b1_berths : Nat → Int32) (f_b2 : Nat → Int32) (k89 : Int32 → (Nat → Int32) → (Nat → Int32) → (Nat → Int32) → (Nat → Int32) → Int32 → Option (Int32 × (Nat → Int32) × (Nat → Int32) × (Nat → Int32) × (Nat → Int32))) (k102 : Int32 → (Nat → Int32) → (Nat → Int32) → (Nat → Int32) → (Nat → Int32) → Int32 → Int32 → Option (Int32 × (Nat → Int32) × (Nat → Int32) × (Nat → Int32) × (Nat → Int32))) (s_a_many : Int32) (f_a_codes : Nat → Int32) (f_a_left : Nat → Int32) (f_a_right : Nat → Int32) (f_a_sets : Nat → Int32) (x3 : Int32) (x4 : Int32) : Option (Int32 × (Nat → Int32) × (Nat → Int32) × (Nat → Int32) × (Nat → Int32)) := if s_b1_sleepers ≤ x4 then nm (x3 + (1 : Int32)) (fun v2 => k89 s_a_many f_a_codes f_a_left f_a_right f_a_sets v2) else bnd (F_X8_carOf N n_b2 f_b2 x3) (fun o3 => bnd (F_X8_carOf N n_b2 f_b2 x4) (fun o4 => if o3 = (-1 : Int32) then nm (x4 + (1 : Int32)) (fun v5 => k102 s_a_many f_a_codes f_a_left f_a_right f_a_sets x3 v5) else if o4 = (-1 : Int32) then nm (x4 + (1 : Int32)) (fun v6 => k102 s_a_many f_a_codes f_a_left f_a_right f_a_sets x3 v6) else if o3 = o4 then nm (x4 + (1 : Int32)) (fun v7 => k102 s_a_many f_a_codes f_a_left f_a_right f_a_sets x3 v7) else nm (((1 : Int32) <<< (x3 &&& 31)) ||| ((1 : Int32) <<< (x4 &&& 31))) (fun v8 => bnd (F_X5_append s_a_many f_a_codes f_a_left f_a_right f_a_sets (((100 : Int32) + ((10 : Int32) * x3)) + x4) o3 o4 v8) (fun o9 => nm (x4 + (1 : Int32)) (fun v10 => k102 o9.1 o9.2.1 o9.2.2.1 o9.2.2.2.1 o9.2.2.2.2 x3 v10)))))
noncomputable def F_X5_list_102 (N : Nat) (n_b2 : Nat) (s_b1_cars : Int32) (s_b1_sleepers : Int32) (f_b1_berths : Nat → Int32) (f_b2 : Nat → Int32) (k89 : Int32 → (Nat → Int32) → (Nat → Int32) → (Nat → Int32) → (Nat → Int32) → Int32 → Option (Int32 × (Nat → Int32) × (Nat → Int32) × (Nat → Int32) × (Nat → Int32))) : Nat → Int32 → (Nat → Int32) → (Nat → Int32) → (Nat → Int32) → (Nat → Int32) → Int32 → Int32 → Option (Int32 × (Nat → Int32) × (Nat → Int32) × (Nat → Int32) × (Nat → Int32)) := lq7 (fun self => B_X5_list_102 N n_b2 s_b1_cars s_b1_sleepers f_b1_berths f_b2 k89 self)
set_option maxHeartbeats 4000000 in
theorem G_X5_list_102 {K : gK} {X : gX} {wi : va_W} {o : Int32 × (Nat → Int32) × (Nat → Int32) × (Nat → Int32) × (Nat → Int32)} (N : Nat) (n_b2 : Nat) (s_b1_cars : Int32) (s_b1_sleepers : Int32) (f_b1_berths : Nat → Int32) (f_b2 : Nat → Int32) (a : Nat) (a_codes : Nat) (a_left : Nat) (a_right : Nat) (a_sets : Nat) (b1 : Nat) (b1_berths : Nat) (b2 : Nat) (b1_pitch : Nat) (b1_loud : Nat) (b1_depth : Nat) (b1_from : Nat) (b1_to : Nat) (b1_mate : Nat) (s_b1_couples : Int32) (s_b1_law : Int32) (hR : gR K X M_X5_list wi (O_X5_list K a a_codes a_left a_right a_sets b1 b1_berths b2 b1_pitch b1_loud b1_depth b1_from b1_to b1_mate n_b2 s_b1_couples s_b1_law s_b1_cars s_b1_sleepers f_b1_berths f_b2 o)) (k89 : Int32 → (Nat → Int32) → (Nat → Int32) → (Nat → Int32) → (Nat → Int32) → Int32 → Option (Int32 × (Nat → Int32) × (Nat → Int32) × (Nat → Int32) × (Nat → Int32))) (hk89 : ∀ (s_a_many : Int32) (f_a_codes : Nat → Int32) (f_a_left : Nat → Int32) (f_a_right : Nat → Int32) (f_a_sets : Nat → Int32) (x3 : Int32), k89 s_a_many f_a_codes f_a_left f_a_right f_a_sets x3 = some o → Go K X M_X5_list 0 0 (C_X5_list K a a_codes a_left a_right a_sets b1 b1_berths b2 b1_pitch b1_loud b1_depth b1_from b1_to b1_mate n_b2 s_a_many f_a_codes f_a_left f_a_right f_a_sets s_b1_cars s_b1_sleepers s_b1_couples s_b1_law f_b1_berths f_b2) [(0, .ref a), (1, .ref b1), (2, .ref b2), (3, .int x3)] 89 []) (k102 : Int32 → (Nat → Int32) → (Nat → Int32) → (Nat → Int32) → (Nat → Int32) → Int32 → Int32 → Option (Int32 × (Nat → Int32) × (Nat → Int32) × (Nat → Int32) × (Nat → Int32))) (hk102 : ∀ (s_a_many : Int32) (f_a_codes : Nat → Int32) (f_a_left : Nat → Int32) (f_a_right : Nat → Int32) (f_a_sets : Nat → Int32) (x3 : Int32) (x4 : Int32), k102 s_a_many f_a_codes f_a_left f_a_right f_a_sets x3 x4 = some o → Go K X M_X5_list 0 0 (C_X5_list K a a_codes a_left a_right a_sets b1 b1_berths b2 b1_pitch b1_loud b1_depth b1_from b1_to b1_mate n_b2 s_a_many f_a_codes f_a_left f_a_right f_a_sets s_b1_cars s_b1_sleepers s_b1_couples s_b1_law f_b1_berths f_b2) [(0, .ref a), (1, .ref b1), (2, .ref b2), (3, .int x3), (4, .int x4)] 102 []) (s_a_many : Int32) (f_a_codes : Nat → Int32) (f_a_left : Nat → Int32) (f_a_right : Nat → Int32) (f_a_sets : Nat → Int32) (x3 : Int32) (x4 : Int32) (hF : B_X5_list_102 N n_b2 s_b1_cars s_b1_sleepers f_b1_berths f_b2 k89 k102 s_a_many f_a_codes f_a_left f_a_right f_a_sets x3 x4 = some o) : Go K X M_X5_list 0 0 (C_X5_list K a a_codes a_left a_right a_sets b1 b1_berths b2 b1_pitch b1_loud b1_depth b1_from b1_to b1_mate n_b2 s_a_many f_a_codes f_a_left f_a_right f_a_sets s_b1_cars s_b1_sleepers s_b1_couples s_b1_law f_b1_berths f_b2) [(0, .ref a), (1, .ref b1), (2, .ref b2), (3, .int x3), (4, .int x4)] 102 [] := by
  unfold B_X5_list_102 at hF
  refine go_iload 4 dX5_list_102 rfl ?_
  refine go_aload_n 1 dX5_list_104 rfl rfl ?_
  refine go_get 7 5 1 hcX7 inX7 (Nat.le_of_ble_eq_true rfl) wd136 rfl rfl dX5_list_105 ?_
  refine go_icmp_ge 177 hF dX5_list_108 (by decide) (fun hF => ?_) (fun hF => ?_)
  · refine go_iinc 3 (fun y => [(3, .int y), (0, .ref a), (1, .ref b1), (2, .ref b2), (4, .int x4)]) hF dX5_list_177 rfl rfl (Nat.le_of_ble_eq_true rfl) (fun _ => rfl) (fun v2 hF => ?_)
    refine go_goto 89 dX5_list_180 (by decide) ?_
    refine go_loc (L' := [(0, .ref a), (1, .ref b1), (2, .ref b2), (3, .int v2)]) [1, 2, 3, 0] rfl ?_
    exact hk89 s_a_many f_a_codes f_a_left f_a_right f_a_sets v2 hF
  · refine go_aload_n 2 dX5_list_111 rfl rfl ?_
    refine go_iload_n 3 dX5_list_112 rfl rfl ?_
    obtain ⟨o3, ho3, hF⟩ := bnd_elim hF
    refine go_callSN (As := [.ref b2, .int x3]) (rest := []) (wr := [(a, .inr (5, [.int s_a_many, .ref a_codes, .ref a_left, .ref a_right, .ref a_sets])), (a_codes, .inl (kI K, 52, .inl f_a_codes)), (a_left, .inl (kI K, 52, .inl f_a_left)), (a_right, .inl (kI K, 52, .inl f_a_right)), (a_sets, .inl (kI K, 52, .inl f_a_sets)), (b1, .inr (7, [.int s_b1_cars, .int s_b1_sleepers, .int s_b1_couples, .int s_b1_law, .ref b1_berths, .ref b1_pitch, .ref b1_loud, .ref b1_depth, .ref b1_from, .ref b1_to, .ref b1_mate])), (b1_berths, .inl (kI K, 4, .inl f_b1_berths))]) (kn_X8_carOf K N b2 n_b2 f_b2 x3 ho3) ok_X8_carOf ⟨Nat.le_of_ble_eq_true rfl, Nat.le_of_ble_eq_true rfl⟩ ⟨Nat.le_of_ble_eq_true rfl, Nat.le_of_ble_eq_true rfl⟩ ns17 rfl rfl (Nat.le_of_ble_eq_true rfl) dX5_list_113 [7] [0, 1, 2, 3, 4, 5, 6] rfl rfl rfl rfl (by decide) (fun r wo hO => ?_)
    obtain ⟨rfl, rfl⟩ := hO
    refine go_ws (ws' := C_X5_list K a a_codes a_left a_right a_sets b1 b1_berths b2 b1_pitch b1_loud b1_depth b1_from b1_to b1_mate n_b2 s_a_many f_a_codes f_a_left f_a_right f_a_sets s_b1_cars s_b1_sleepers s_b1_couples s_b1_law f_b1_berths f_b2) [0, 1, 2, 3, 4, 5, 6, 7] rfl rfl ?_
    refine go_eq (pc' := 116) (st' := [.int o3]) rfl rfl ?_
    refine go_istore [(5, .int o3), (0, .ref a), (1, .ref b1), (2, .ref b2), (3, .int x3), (4, .int x4)] dX5_list_116 (Nat.le_of_ble_eq_true rfl) rfl ?_
    refine go_aload_n 3 dX5_list_118 rfl rfl ?_
    refine go_iload 5 dX5_list_119 rfl ?_
    obtain ⟨o4, ho4, hF⟩ := bnd_elim hF
    refine go_callSN (As := [.ref b2, .int x4]) (rest := []) (wr := [(a, .inr (5, [.int s_a_many, .ref a_codes, .ref a_left, .ref a_right, .ref a_sets])), (a_codes, .inl (kI K, 52, .inl f_a_codes)), (a_left, .inl (kI K, 52, .inl f_a_left)), (a_right, .inl (kI K, 52, .inl f_a_right)), (a_sets, .inl (kI K, 52, .inl f_a_sets)), (b1, .inr (7, [.int s_b1_cars, .int s_b1_sleepers, .int s_b1_couples, .int s_b1_law, .ref b1_berths, .ref b1_pitch, .ref b1_loud, .ref b1_depth, .ref b1_from, .ref b1_to, .ref b1_mate])), (b1_berths, .inl (kI K, 4, .inl f_b1_berths))]) (kn_X8_carOf K N b2 n_b2 f_b2 x4 ho4) ok_X8_carOf ⟨Nat.le_of_ble_eq_true rfl, Nat.le_of_ble_eq_true rfl⟩ ⟨Nat.le_of_ble_eq_true rfl, Nat.le_of_ble_eq_true rfl⟩ ns17 rfl rfl (Nat.le_of_ble_eq_true rfl) dX5_list_121 [7] [0, 1, 2, 3, 4, 5, 6] rfl rfl rfl rfl (by decide) (fun r wo hO => ?_)
    obtain ⟨rfl, rfl⟩ := hO
    refine go_ws (ws' := C_X5_list K a a_codes a_left a_right a_sets b1 b1_berths b2 b1_pitch b1_loud b1_depth b1_from b1_to b1_mate n_b2 s_a_many f_a_codes f_a_left f_a_right f_a_sets s_b1_cars s_b1_sleepers s_b1_couples s_b1_law f_b1_berths f_b2) [0, 1, 2, 3, 4, 5, 6, 7] rfl rfl ?_
    refine go_eq (pc' := 124) (st' := [.int o4]) rfl rfl ?_
    refine go_istore [(6, .int o4), (5, .int o3), (0, .ref a), (1, .ref b1), (2, .ref b2), (3, .int x3), (4, .int x4)] dX5_list_124 (Nat.le_of_ble_eq_true rfl) rfl ?_
    refine go_iload 1 dX5_list_126 rfl ?_
    refine go_iconst (v := (-1 : Int32)) dX5_list_128 (by decide) ?_
    refine go_icmp_eq 171 hF dX5_list_129 (by decide) (fun hF => ?_) (fun hF => ?_)
    · refine go_iinc 6 (fun y => [(4, .int y), (6, .int o4), (5, .int o3), (0, .ref a), (1, .ref b1), (2, .ref b2), (3, .int x3)]) hF dX5_list_171 rfl rfl (Nat.le_of_ble_eq_true rfl) (fun _ => rfl) (fun v5 hF => ?_)
      refine go_goto 102 dX5_list_174 (by decide) ?_
      refine go_loc (L' := [(0, .ref a), (1, .ref b1), (2, .ref b2), (3, .int x3), (4, .int v5)]) [3, 4, 5, 6, 0] rfl ?_
      exact hk102 s_a_many f_a_codes f_a_left f_a_right f_a_sets x3 v5 hF
    · refine go_iload 0 dX5_list_132 rfl ?_
      refine go_iconst (v := (-1 : Int32)) dX5_list_134 (by decide) ?_
      refine go_icmp_eq 171 hF dX5_list_135 (by decide) (fun hF => ?_) (fun hF => ?_)
      · refine go_iinc 6 (fun y => [(4, .int y), (6, .int o4), (5, .int o3), (0, .ref a), (1, .ref b1), (2, .ref b2), (3, .int x3)]) hF dX5_list_171 rfl rfl (Nat.le_of_ble_eq_true rfl) (fun _ => rfl) (fun v6 hF => ?_)
        refine go_goto 102 dX5_list_174 (by decide) ?_
        refine go_loc (L' := [(0, .ref a), (1, .ref b1), (2, .ref b2), (3, .int x3), (4, .int v6)]) [3, 4, 5, 6, 0] rfl ?_
        exact hk102 s_a_many f_a_codes f_a_left f_a_right f_a_sets x3 v6 hF
      · refine go_iload 1 dX5_list_138 rfl ?_
        refine go_iload 0 dX5_list_140 rfl ?_
        refine go_icmp_eq 171 hF dX5_list_142 (by decide) (fun hF => ?_) (fun hF => ?_)
        · refine go_iinc 6 (fun y => [(4, .int y), (6, .int o4), (5, .int o3), (0, .ref a), (1, .ref b1), (2, .ref b2), (3, .int x3)]) hF dX5_list_171 rfl rfl (Nat.le_of_ble_eq_true rfl) (fun _ => rfl) (fun v7 hF => ?_)
          refine go_goto 102 dX5_list_174 (by decide) ?_
          refine go_loc (L' := [(0, .ref a), (1, .ref b1), (2, .ref b2), (3, .int x3), (4, .int v7)]) [3, 4, 5, 6, 0] rfl ?_
          exact hk102 s_a_many f_a_codes f_a_left f_a_right f_a_sets x3 v7 hF
        · refine go_aload_n 2 dX5_list_145 rfl rfl ?_
          refine go_bipush (v := (100 : Int32)) dX5_list_146 (by decide) ?_
          refine go_bipush (v := (10 : Int32)) dX5_list_148 (by decide) ?_
          refine go_iload_n 5 dX5_list_150 rfl rfl ?_
          refine go_imul dX5_list_151 ?_
          refine go_iadd dX5_list_152 ?_
          refine go_iload 6 dX5_list_153 rfl ?_
          refine go_iadd dX5_list_155 ?_
          refine go_iload 1 dX5_list_156 rfl ?_
          refine go_iload 0 dX5_list_158 rfl ?_
          refine go_iconst (v := (1 : Int32)) dX5_list_160 (by decide) ?_
          refine go_iload_n 5 dX5_list_161 rfl rfl ?_
          refine go_ishl dX5_list_162 ?_
          refine go_iconst (v := (1 : Int32)) dX5_list_163 (by decide) ?_
          refine go_iload 6 dX5_list_164 rfl ?_
          refine go_ishl dX5_list_166 ?_
          refine go_ior dX5_list_167 ?_
          refine go_nmi hF (fun v8 hF => ?_)
          obtain ⟨o9, ho9, hF⟩ := bnd_elim hF
          refine go_callV (As := [.int (((100 : Int32) + ((10 : Int32) * x3)) + x4), .int o3, .int o4, .int v8]) (rest := []) (wr := [(b1, .inr (7, [.int s_b1_cars, .int s_b1_sleepers, .int s_b1_couples, .int s_b1_law, .ref b1_berths, .ref b1_pitch, .ref b1_loud, .ref b1_depth, .ref b1_from, .ref b1_to, .ref b1_mate])), (b1_berths, .inl (kI K, 4, .inl f_b1_berths)), (b2, .inl (kI K, n_b2, .inl f_b2))]) 5 0 hcX5 rfl (kn_X5_append K a a_codes a_left a_right a_sets s_a_many f_a_codes f_a_left f_a_right f_a_sets (((100 : Int32) + ((10 : Int32) * x3)) + x4) o3 o4 v8 ho9) ok_X5_append ⟨Nat.le_of_ble_eq_true rfl, Nat.le_of_ble_eq_true rfl⟩ ⟨Nat.le_of_ble_eq_true rfl, Nat.le_of_ble_eq_true rfl⟩ wd704 rfl rfl (Nat.le_of_ble_eq_true rfl) dX5_list_168 [0, 1, 2, 3, 4] [5, 6, 7] rfl rfl rfl rfl (by decide) (fun r wo hO => ?_)
          obtain ⟨rfl, rfl⟩ := hO
          refine go_ws (ws' := C_X5_list K a a_codes a_left a_right a_sets b1 b1_berths b2 b1_pitch b1_loud b1_depth b1_from b1_to b1_mate n_b2 o9.1 o9.2.1 o9.2.2.1 o9.2.2.2.1 o9.2.2.2.2 s_b1_cars s_b1_sleepers s_b1_couples s_b1_law f_b1_berths f_b2) [3, 4, 5, 6, 7, 0, 1, 2] rfl rfl ?_
          refine go_eq (pc' := 171) (st' := []) rfl rfl ?_
          refine go_iinc 6 (fun y => [(4, .int y), (6, .int o4), (5, .int o3), (0, .ref a), (1, .ref b1), (2, .ref b2), (3, .int x3)]) hF dX5_list_171 rfl rfl (Nat.le_of_ble_eq_true rfl) (fun _ => rfl) (fun v10 hF => ?_)
          refine go_goto 102 dX5_list_174 (by decide) ?_
          refine go_loc (L' := [(0, .ref a), (1, .ref b1), (2, .ref b2), (3, .int x3), (4, .int v10)]) [3, 4, 5, 6, 0] rfl ?_
          exact hk102 o9.1 o9.2.1 o9.2.2.1 o9.2.2.2.1 o9.2.2.2.2 x3 v10 hF
theorem GL_X5_list_102 {K : gK} {X : gX} {wi : va_W} {o : Int32 × (Nat → Int32) × (Nat → Int32) × (Nat → Int32) × (Nat → Int32)} (N : Nat) (n_b2 : Nat) (s_b1_cars : Int32) (s_b1_sleepers : Int32) (f_b1_berths : Nat → Int32) (f_b2 : Nat → Int32) (a : Nat) (a_codes : Nat) (a_left : Nat) (a_right : Nat) (a_sets : Nat) (b1 : Nat) (b1_berths : Nat) (b2 : Nat) (b1_pitch : Nat) (b1_loud : Nat) (b1_depth : Nat) (b1_from : Nat) (b1_to : Nat) (b1_mate : Nat) (s_b1_couples : Int32) (s_b1_law : Int32) (hR : gR K X M_X5_list wi (O_X5_list K a a_codes a_left a_right a_sets b1 b1_berths b2 b1_pitch b1_loud b1_depth b1_from b1_to b1_mate n_b2 s_b1_couples s_b1_law s_b1_cars s_b1_sleepers f_b1_berths f_b2 o)) (k89 : Int32 → (Nat → Int32) → (Nat → Int32) → (Nat → Int32) → (Nat → Int32) → Int32 → Option (Int32 × (Nat → Int32) × (Nat → Int32) × (Nat → Int32) × (Nat → Int32))) (hk89 : ∀ (s_a_many : Int32) (f_a_codes : Nat → Int32) (f_a_left : Nat → Int32) (f_a_right : Nat → Int32) (f_a_sets : Nat → Int32) (x3 : Int32), k89 s_a_many f_a_codes f_a_left f_a_right f_a_sets x3 = some o → Go K X M_X5_list 0 0 (C_X5_list K a a_codes a_left a_right a_sets b1 b1_berths b2 b1_pitch b1_loud b1_depth b1_from b1_to b1_mate n_b2 s_a_many f_a_codes f_a_left f_a_right f_a_sets s_b1_cars s_b1_sleepers s_b1_couples s_b1_law f_b1_berths f_b2) [(0, .ref a), (1, .ref b1), (2, .ref b2), (3, .int x3)] 89 []) : ∀ (fuel : Nat) (s_a_many : Int32) (f_a_codes : Nat → Int32) (f_a_left : Nat → Int32) (f_a_right : Nat → Int32) (f_a_sets : Nat → Int32) (x3 : Int32) (x4 : Int32), F_X5_list_102 N n_b2 s_b1_cars s_b1_sleepers f_b1_berths f_b2 k89 fuel s_a_many f_a_codes f_a_left f_a_right f_a_sets x3 x4 = some o → Go K X M_X5_list 0 0 (C_X5_list K a a_codes a_left a_right a_sets b1 b1_berths b2 b1_pitch b1_loud b1_depth b1_from b1_to b1_mate n_b2 s_a_many f_a_codes f_a_left f_a_right f_a_sets s_b1_cars s_b1_sleepers s_b1_couples s_b1_law f_b1_berths f_b2) [(0, .ref a), (1, .ref b1), (2, .ref b2), (3, .int x3), (4, .int x4)] 102 [] :=
  lq7_elim (fun self hs s_a_many f_a_codes f_a_left f_a_right f_a_sets x3 x4 hF => G_X5_list_102 N n_b2 s_b1_cars s_b1_sleepers f_b1_berths f_b2 a a_codes a_left a_right a_sets b1 b1_berths b2 b1_pitch b1_loud b1_depth b1_from b1_to b1_mate s_b1_couples s_b1_law hR k89 hk89 self hs s_a_many f_a_codes f_a_left f_a_right f_a_sets x3 x4 hF)
noncomputable def B_X5_list_89 (N : Nat) (n_b2 : Nat) (s_b1_cars : Int32) (s_b1_sleepers : Int32) (f_b1_berths : Nat → Int32) (f_b2 : Nat → Int32) (k89 : Int32 → (Nat → Int32) → (Nat → Int32) → (Nat → Int32) → (Nat → Int32) → Int32 → Option (Int32 × (Nat → Int32) × (Nat → Int32) × (Nat → Int32) × (Nat → Int32))) (s_a_many : Int32) (f_a_codes : Nat → Int32) (f_a_left : Nat → Int32) (f_a_right : Nat → Int32) (f_a_sets : Nat → Int32) (x3 : Int32) : Option (Int32 × (Nat → Int32) × (Nat → Int32) × (Nat → Int32) × (Nat → Int32)) := if s_b1_sleepers ≤ x3 then some (s_a_many, f_a_codes, f_a_left, f_a_right, f_a_sets) else nm (x3 + (1 : Int32)) (fun v1 => F_X5_list_102 N n_b2 s_b1_cars s_b1_sleepers f_b1_berths f_b2 k89 N s_a_many f_a_codes f_a_left f_a_right f_a_sets x3 v1)
noncomputable def F_X5_list_89 (N : Nat) (n_b2 : Nat) (s_b1_cars : Int32) (s_b1_sleepers : Int32) (f_b1_berths : Nat → Int32) (f_b2 : Nat → Int32)  : Nat → Int32 → (Nat → Int32) → (Nat → Int32) → (Nat → Int32) → (Nat → Int32) → Int32 → Option (Int32 × (Nat → Int32) × (Nat → Int32) × (Nat → Int32) × (Nat → Int32)) := lq6 (fun self => B_X5_list_89 N n_b2 s_b1_cars s_b1_sleepers f_b1_berths f_b2  self)
set_option maxHeartbeats 4000000 in
theorem G_X5_list_89 {K : gK} {X : gX} {wi : va_W} {o : Int32 × (Nat → Int32) × (Nat → Int32) × (Nat → Int32) × (Nat → Int32)} (N : Nat) (n_b2 : Nat) (s_b1_cars : Int32) (s_b1_sleepers : Int32) (f_b1_berths : Nat → Int32) (f_b2 : Nat → Int32) (a : Nat) (a_codes : Nat) (a_left : Nat) (a_right : Nat) (a_sets : Nat) (b1 : Nat) (b1_berths : Nat) (b2 : Nat) (b1_pitch : Nat) (b1_loud : Nat) (b1_depth : Nat) (b1_from : Nat) (b1_to : Nat) (b1_mate : Nat) (s_b1_couples : Int32) (s_b1_law : Int32) (hR : gR K X M_X5_list wi (O_X5_list K a a_codes a_left a_right a_sets b1 b1_berths b2 b1_pitch b1_loud b1_depth b1_from b1_to b1_mate n_b2 s_b1_couples s_b1_law s_b1_cars s_b1_sleepers f_b1_berths f_b2 o)) (k89 : Int32 → (Nat → Int32) → (Nat → Int32) → (Nat → Int32) → (Nat → Int32) → Int32 → Option (Int32 × (Nat → Int32) × (Nat → Int32) × (Nat → Int32) × (Nat → Int32))) (hk89 : ∀ (s_a_many : Int32) (f_a_codes : Nat → Int32) (f_a_left : Nat → Int32) (f_a_right : Nat → Int32) (f_a_sets : Nat → Int32) (x3 : Int32), k89 s_a_many f_a_codes f_a_left f_a_right f_a_sets x3 = some o → Go K X M_X5_list 0 0 (C_X5_list K a a_codes a_left a_right a_sets b1 b1_berths b2 b1_pitch b1_loud b1_depth b1_from b1_to b1_mate n_b2 s_a_many f_a_codes f_a_left f_a_right f_a_sets s_b1_cars s_b1_sleepers s_b1_couples s_b1_law f_b1_berths f_b2) [(0, .ref a), (1, .ref b1), (2, .ref b2), (3, .int x3)] 89 []) (s_a_many : Int32) (f_a_codes : Nat → Int32) (f_a_left : Nat → Int32) (f_a_right : Nat → Int32) (f_a_sets : Nat → Int32) (x3 : Int32) (hF : B_X5_list_89 N n_b2 s_b1_cars s_b1_sleepers f_b1_berths f_b2 k89 s_a_many f_a_codes f_a_left f_a_right f_a_sets x3 = some o) : Go K X M_X5_list 0 0 (C_X5_list K a a_codes a_left a_right a_sets b1 b1_berths b2 b1_pitch b1_loud b1_depth b1_from b1_to b1_mate n_b2 s_a_many f_a_codes f_a_left f_a_right f_a_sets s_b1_cars s_b1_sleepers s_b1_couples s_b1_law f_b1_berths f_b2) [(0, .ref a), (1, .ref b1), (2, .ref b2), (3, .int x3)] 89 [] := by
  unfold B_X5_list_89 at hF
  refine go_iload_n 3 dX5_list_89 rfl rfl ?_
  refine go_aload_n 1 dX5_list_90 rfl rfl ?_
  refine go_get 7 5 1 hcX7 inX7 (Nat.le_of_ble_eq_true rfl) wd136 rfl rfl dX5_list_91 ?_
  refine go_icmp_ge 183 hF dX5_list_94 (by decide) (fun hF => ?_) (fun hF => ?_)
  · exact go_vret (Om := O_X5_list K a a_codes a_left a_right a_sets b1 b1_berths b2 b1_pitch b1_loud b1_depth b1_from b1_to b1_mate n_b2 s_b1_couples s_b1_law s_b1_cars s_b1_sleepers f_b1_berths f_b2) hR hF dX5_list_183 rfl (Nat.zero_le _) (Nat.zero_le _) ⟨rfl, rfl⟩
  · refine go_iload_n 3 dX5_list_97 rfl rfl ?_
    refine go_iconst (v := (1 : Int32)) dX5_list_98 (by decide) ?_
    refine go_iadd dX5_list_99 ?_
    refine go_nmi hF (fun v1 hF => ?_)
    refine go_istore [(4, .int v1), (0, .ref a), (1, .ref b1), (2, .ref b2), (3, .int x3)] dX5_list_100 (Nat.le_of_ble_eq_true rfl) rfl ?_
    refine go_loc (L' := [(0, .ref a), (1, .ref b1), (2, .ref b2), (3, .int x3), (4, .int v1)]) [1, 2, 3, 4, 0] rfl ?_
    exact GL_X5_list_102 N n_b2 s_b1_cars s_b1_sleepers f_b1_berths f_b2 a a_codes a_left a_right a_sets b1 b1_berths b2 b1_pitch b1_loud b1_depth b1_from b1_to b1_mate s_b1_couples s_b1_law hR k89 hk89 N s_a_many f_a_codes f_a_left f_a_right f_a_sets x3 v1 hF
theorem GL_X5_list_89 {K : gK} {X : gX} {wi : va_W} {o : Int32 × (Nat → Int32) × (Nat → Int32) × (Nat → Int32) × (Nat → Int32)} (N : Nat) (n_b2 : Nat) (s_b1_cars : Int32) (s_b1_sleepers : Int32) (f_b1_berths : Nat → Int32) (f_b2 : Nat → Int32) (a : Nat) (a_codes : Nat) (a_left : Nat) (a_right : Nat) (a_sets : Nat) (b1 : Nat) (b1_berths : Nat) (b2 : Nat) (b1_pitch : Nat) (b1_loud : Nat) (b1_depth : Nat) (b1_from : Nat) (b1_to : Nat) (b1_mate : Nat) (s_b1_couples : Int32) (s_b1_law : Int32) (hR : gR K X M_X5_list wi (O_X5_list K a a_codes a_left a_right a_sets b1 b1_berths b2 b1_pitch b1_loud b1_depth b1_from b1_to b1_mate n_b2 s_b1_couples s_b1_law s_b1_cars s_b1_sleepers f_b1_berths f_b2 o))  : ∀ (fuel : Nat) (s_a_many : Int32) (f_a_codes : Nat → Int32) (f_a_left : Nat → Int32) (f_a_right : Nat → Int32) (f_a_sets : Nat → Int32) (x3 : Int32), F_X5_list_89 N n_b2 s_b1_cars s_b1_sleepers f_b1_berths f_b2  fuel s_a_many f_a_codes f_a_left f_a_right f_a_sets x3 = some o → Go K X M_X5_list 0 0 (C_X5_list K a a_codes a_left a_right a_sets b1 b1_berths b2 b1_pitch b1_loud b1_depth b1_from b1_to b1_mate n_b2 s_a_many f_a_codes f_a_left f_a_right f_a_sets s_b1_cars s_b1_sleepers s_b1_couples s_b1_law f_b1_berths f_b2) [(0, .ref a), (1, .ref b1), (2, .ref b2), (3, .int x3)] 89 [] :=
  lq6_elim (fun self hs s_a_many f_a_codes f_a_left f_a_right f_a_sets x3 hF => G_X5_list_89 N n_b2 s_b1_cars s_b1_sleepers f_b1_berths f_b2 a a_codes a_left a_right a_sets b1 b1_berths b2 b1_pitch b1_loud b1_depth b1_from b1_to b1_mate s_b1_couples s_b1_law hR  self hs s_a_many f_a_codes f_a_left f_a_right f_a_sets x3 hF)
noncomputable def B_X5_list_25 (N : Nat) (n_b2 : Nat) (s_b1_cars : Int32) (s_b1_sleepers : Int32) (f_b1_berths : Nat → Int32) (f_b2 : Nat → Int32) (k7 : Int32 → (Nat → Int32) → (Nat → Int32) → (Nat → Int32) → (Nat → Int32) → Int32 → Option (Int32 × (Nat → Int32) × (Nat → Int32) × (Nat → Int32) × (Nat → Int32))) (k25 : Int32 → (Nat → Int32) → (Nat → Int32) → (Nat → Int32) → (Nat → Int32) → Int32 → Int32 → Int32 → Option (Int32 × (Nat → Int32) × (Nat → Int32) × (Nat → Int32) × (Nat → Int32))) (s_a_many : Int32) (f_a_codes : Nat → Int32) (f_a_left : Nat → Int32) (f_a_right : Nat → Int32) (f_a_sets : Nat → Int32) (x3 : Int32) (x4 : Int32) (x5 : Int32) : Option (Int32 × (Nat → Int32) × (Nat → Int32) × (Nat → Int32) × (Nat → Int32)) := if s_b1_cars ≤ x5 then nm (x3 + (1 : Int32)) (fun v12 => k7 s_a_many f_a_codes f_a_left f_a_right f_a_sets v12) else if x4 = (-1 : Int32) then nm (x5 + (1 : Int32)) (fun v13 => k25 s_a_many f_a_codes f_a_left f_a_right f_a_sets x3 x4 v13) else if x4 = x5 then nm (x5 + (1 : Int32)) (fun v14 => k25 s_a_many f_a_codes f_a_left f_a_right f_a_sets x3 x4 v14) else bnd (F_X8_isFull n_b2 f_b1_berths f_b2 x5) (fun o15 => if o15 = 0 then bnd (F_X5_append s_a_many f_a_codes f_a_left f_a_right f_a_sets (((10 : Int32) * x3) + x5) x4 x5 ((1 : Int32) <<< (x3 &&& 31))) (fun o17 => nm (x5 + (1 : Int32)) (fun v18 => k25 o17.1 o17.2.1 o17.2.2.1 o17.2.2.2.1 o17.2.2.2.2 x3 x4 v18)) else nm (x5 + (1 : Int32)) (fun v16 => k25 s_a_many f_a_codes f_a_left f_a_right f_a_sets x3 x4 v16))
noncomputable def F_X5_list_25 (N : Nat) (n_b2 : Nat) (s_b1_cars : Int32) (s_b1_sleepers : Int32) (f_b1_berths : Nat → Int32) (f_b2 : Nat → Int32) (k7 : Int32 → (Nat → Int32) → (Nat → Int32) → (Nat → Int32) → (Nat → Int32) → Int32 → Option (Int32 × (Nat → Int32) × (Nat → Int32) × (Nat → Int32) × (Nat → Int32))) : Nat → Int32 → (Nat → Int32) → (Nat → Int32) → (Nat → Int32) → (Nat → Int32) → Int32 → Int32 → Int32 → Option (Int32 × (Nat → Int32) × (Nat → Int32) × (Nat → Int32) × (Nat → Int32)) := lq8 (fun self => B_X5_list_25 N n_b2 s_b1_cars s_b1_sleepers f_b1_berths f_b2 k7 self)
set_option maxHeartbeats 4000000 in
theorem G_X5_list_25 {K : gK} {X : gX} {wi : va_W} {o : Int32 × (Nat → Int32) × (Nat → Int32) × (Nat → Int32) × (Nat → Int32)} (N : Nat) (n_b2 : Nat) (s_b1_cars : Int32) (s_b1_sleepers : Int32) (f_b1_berths : Nat → Int32) (f_b2 : Nat → Int32) (a : Nat) (a_codes : Nat) (a_left : Nat) (a_right : Nat) (a_sets : Nat) (b1 : Nat) (b1_berths : Nat) (b2 : Nat) (b1_pitch : Nat) (b1_loud : Nat) (b1_depth : Nat) (b1_from : Nat) (b1_to : Nat) (b1_mate : Nat) (s_b1_couples : Int32) (s_b1_law : Int32) (hR : gR K X M_X5_list wi (O_X5_list K a a_codes a_left a_right a_sets b1 b1_berths b2 b1_pitch b1_loud b1_depth b1_from b1_to b1_mate n_b2 s_b1_couples s_b1_law s_b1_cars s_b1_sleepers f_b1_berths f_b2 o)) (k7 : Int32 → (Nat → Int32) → (Nat → Int32) → (Nat → Int32) → (Nat → Int32) → Int32 → Option (Int32 × (Nat → Int32) × (Nat → Int32) × (Nat → Int32) × (Nat → Int32))) (hk7 : ∀ (s_a_many : Int32) (f_a_codes : Nat → Int32) (f_a_left : Nat → Int32) (f_a_right : Nat → Int32) (f_a_sets : Nat → Int32) (x3 : Int32), k7 s_a_many f_a_codes f_a_left f_a_right f_a_sets x3 = some o → Go K X M_X5_list 0 0 (C_X5_list K a a_codes a_left a_right a_sets b1 b1_berths b2 b1_pitch b1_loud b1_depth b1_from b1_to b1_mate n_b2 s_a_many f_a_codes f_a_left f_a_right f_a_sets s_b1_cars s_b1_sleepers s_b1_couples s_b1_law f_b1_berths f_b2) [(0, .ref a), (1, .ref b1), (2, .ref b2), (3, .int x3)] 7 []) (k25 : Int32 → (Nat → Int32) → (Nat → Int32) → (Nat → Int32) → (Nat → Int32) → Int32 → Int32 → Int32 → Option (Int32 × (Nat → Int32) × (Nat → Int32) × (Nat → Int32) × (Nat → Int32))) (hk25 : ∀ (s_a_many : Int32) (f_a_codes : Nat → Int32) (f_a_left : Nat → Int32) (f_a_right : Nat → Int32) (f_a_sets : Nat → Int32) (x3 : Int32) (x4 : Int32) (x5 : Int32), k25 s_a_many f_a_codes f_a_left f_a_right f_a_sets x3 x4 x5 = some o → Go K X M_X5_list 0 0 (C_X5_list K a a_codes a_left a_right a_sets b1 b1_berths b2 b1_pitch b1_loud b1_depth b1_from b1_to b1_mate n_b2 s_a_many f_a_codes f_a_left f_a_right f_a_sets s_b1_cars s_b1_sleepers s_b1_couples s_b1_law f_b1_berths f_b2) [(0, .ref a), (1, .ref b1), (2, .ref b2), (3, .int x3), (4, .int x4), (5, .int x5)] 25 []) (s_a_many : Int32) (f_a_codes : Nat → Int32) (f_a_left : Nat → Int32) (f_a_right : Nat → Int32) (f_a_sets : Nat → Int32) (x3 : Int32) (x4 : Int32) (x5 : Int32) (hF : B_X5_list_25 N n_b2 s_b1_cars s_b1_sleepers f_b1_berths f_b2 k7 k25 s_a_many f_a_codes f_a_left f_a_right f_a_sets x3 x4 x5 = some o) : Go K X M_X5_list 0 0 (C_X5_list K a a_codes a_left a_right a_sets b1 b1_berths b2 b1_pitch b1_loud b1_depth b1_from b1_to b1_mate n_b2 s_a_many f_a_codes f_a_left f_a_right f_a_sets s_b1_cars s_b1_sleepers s_b1_couples s_b1_law f_b1_berths f_b2) [(0, .ref a), (1, .ref b1), (2, .ref b2), (3, .int x3), (4, .int x4), (5, .int x5)] 25 [] := by
  unfold B_X5_list_25 at hF
  refine go_iload 5 dX5_list_25 rfl ?_
  refine go_aload_n 1 dX5_list_27 rfl rfl ?_
  refine go_get 7 5 0 hcX7 inX7 (Nat.le_of_ble_eq_true rfl) wd130 rfl rfl dX5_list_28 ?_
  refine go_icmp_ge 81 hF dX5_list_31 (by decide) (fun hF => ?_) (fun hF => ?_)
  · refine go_iinc 3 (fun y => [(3, .int y), (0, .ref a), (1, .ref b1), (2, .ref b2), (4, .int x4), (5, .int x5)]) hF dX5_list_81 rfl rfl (Nat.le_of_ble_eq_true rfl) (fun _ => rfl) (fun v12 hF => ?_)
    refine go_goto 7 dX5_list_84 (by decide) ?_
    refine go_loc (L' := [(0, .ref a), (1, .ref b1), (2, .ref b2), (3, .int v12)]) [1, 2, 3, 0] rfl ?_
    exact hk7 s_a_many f_a_codes f_a_left f_a_right f_a_sets v12 hF
  · refine go_iload 4 dX5_list_34 rfl ?_
    refine go_iconst (v := (-1 : Int32)) dX5_list_36 (by decide) ?_
    refine go_icmp_eq 75 hF dX5_list_37 (by decide) (fun hF => ?_) (fun hF => ?_)
    · refine go_iinc 5 (fun y => [(5, .int y), (0, .ref a), (1, .ref b1), (2, .ref b2), (3, .int x3), (4, .int x4)]) hF dX5_list_75 rfl rfl (Nat.le_of_ble_eq_true rfl) (fun _ => rfl) (fun v13 hF => ?_)
      refine go_goto 25 dX5_list_78 (by decide) ?_
      refine go_loc (L' := [(0, .ref a), (1, .ref b1), (2, .ref b2), (3, .int x3), (4, .int x4), (5, .int v13)]) [1, 2, 3, 4, 5, 0] rfl ?_
      exact hk25 s_a_many f_a_codes f_a_left f_a_right f_a_sets x3 x4 v13 hF
    · refine go_iload 4 dX5_list_40 rfl ?_
      refine go_iload 5 dX5_list_42 rfl ?_
      refine go_icmp_eq 75 hF dX5_list_44 (by decide) (fun hF => ?_) (fun hF => ?_)
      · refine go_iinc 5 (fun y => [(5, .int y), (0, .ref a), (1, .ref b1), (2, .ref b2), (3, .int x3), (4, .int x4)]) hF dX5_list_75 rfl rfl (Nat.le_of_ble_eq_true rfl) (fun _ => rfl) (fun v14 hF => ?_)
        refine go_goto 25 dX5_list_78 (by decide) ?_
        refine go_loc (L' := [(0, .ref a), (1, .ref b1), (2, .ref b2), (3, .int x3), (4, .int x4), (5, .int v14)]) [1, 2, 3, 4, 5, 0] rfl ?_
        exact hk25 s_a_many f_a_codes f_a_left f_a_right f_a_sets x3 x4 v14 hF
      · refine go_aload_n 1 dX5_list_47 rfl rfl ?_
        refine go_aload_n 2 dX5_list_48 rfl rfl ?_
        refine go_iload 5 dX5_list_49 rfl ?_
        obtain ⟨o15, ho15, hF⟩ := bnd_elim hF
        refine go_callSN (As := [.ref b1, .ref b2, .int x5]) (rest := []) (wr := [(a, .inr (5, [.int s_a_many, .ref a_codes, .ref a_left, .ref a_right, .ref a_sets])), (a_codes, .inl (kI K, 52, .inl f_a_codes)), (a_left, .inl (kI K, 52, .inl f_a_left)), (a_right, .inl (kI K, 52, .inl f_a_right)), (a_sets, .inl (kI K, 52, .inl f_a_sets))]) (kn_X8_isFull K b1 b1_berths b2 b1_pitch b1_loud b1_depth b1_from b1_to b1_mate n_b2 s_b1_cars s_b1_sleepers s_b1_couples s_b1_law f_b1_berths f_b2 x5 ho15) ok_X8_isFull ⟨Nat.le_of_ble_eq_true rfl, Nat.le_of_ble_eq_true rfl⟩ ⟨Nat.le_of_ble_eq_true rfl, Nat.le_of_ble_eq_true rfl⟩ ns18 rfl rfl (Nat.le_of_ble_eq_true rfl) dX5_list_51 [5, 6, 7] [0, 1, 2, 3, 4] rfl rfl rfl rfl (by decide) (fun r wo hO => ?_)
        obtain ⟨rfl, rfl⟩ := hO
        refine go_ws (ws' := C_X5_list K a a_codes a_left a_right a_sets b1 b1_berths b2 b1_pitch b1_loud b1_depth b1_from b1_to b1_mate n_b2 s_a_many f_a_codes f_a_left f_a_right f_a_sets s_b1_cars s_b1_sleepers s_b1_couples s_b1_law f_b1_berths f_b2) [0, 1, 2, 3, 4, 5, 6, 7] rfl rfl ?_
        refine go_eq (pc' := 54) (st' := [.int o15]) rfl rfl ?_
        refine go_if_ne 75 hF dX5_list_54 (by decide) (fun hF => ?_) (fun hF => ?_)
        · refine go_iinc 5 (fun y => [(5, .int y), (0, .ref a), (1, .ref b1), (2, .ref b2), (3, .int x3), (4, .int x4)]) hF dX5_list_75 rfl rfl (Nat.le_of_ble_eq_true rfl) (fun _ => rfl) (fun v16 hF => ?_)
          refine go_goto 25 dX5_list_78 (by decide) ?_
          refine go_loc (L' := [(0, .ref a), (1, .ref b1), (2, .ref b2), (3, .int x3), (4, .int x4), (5, .int v16)]) [1, 2, 3, 4, 5, 0] rfl ?_
          exact hk25 s_a_many f_a_codes f_a_left f_a_right f_a_sets x3 x4 v16 hF
        · refine go_aload_n 0 dX5_list_57 rfl rfl ?_
          refine go_bipush (v := (10 : Int32)) dX5_list_58 (by decide) ?_
          refine go_iload_n 3 dX5_list_60 rfl rfl ?_
          refine go_imul dX5_list_61 ?_
          refine go_iload 5 dX5_list_62 rfl ?_
          refine go_iadd dX5_list_64 ?_
          refine go_iload 4 dX5_list_65 rfl ?_
          refine go_iload 5 dX5_list_67 rfl ?_
          refine go_iconst (v := (1 : Int32)) dX5_list_69 (by decide) ?_
          refine go_iload_n 3 dX5_list_70 rfl rfl ?_
          refine go_ishl dX5_list_71 ?_
          obtain ⟨o17, ho17, hF⟩ := bnd_elim hF
          refine go_callV (As := [.int (((10 : Int32) * x3) + x5), .int x4, .int x5, .int ((1 : Int32) <<< (x3 &&& 31))]) (rest := []) (wr := [(b1, .inr (7, [.int s_b1_cars, .int s_b1_sleepers, .int s_b1_couples, .int s_b1_law, .ref b1_berths, .ref b1_pitch, .ref b1_loud, .ref b1_depth, .ref b1_from, .ref b1_to, .ref b1_mate])), (b1_berths, .inl (kI K, 4, .inl f_b1_berths)), (b2, .inl (kI K, n_b2, .inl f_b2))]) 5 0 hcX5 rfl (kn_X5_append K a a_codes a_left a_right a_sets s_a_many f_a_codes f_a_left f_a_right f_a_sets (((10 : Int32) * x3) + x5) x4 x5 ((1 : Int32) <<< (x3 &&& 31)) ho17) ok_X5_append ⟨Nat.le_of_ble_eq_true rfl, Nat.le_of_ble_eq_true rfl⟩ ⟨Nat.le_of_ble_eq_true rfl, Nat.le_of_ble_eq_true rfl⟩ wd704 rfl rfl (Nat.le_of_ble_eq_true rfl) dX5_list_72 [0, 1, 2, 3, 4] [5, 6, 7] rfl rfl rfl rfl (by decide) (fun r wo hO => ?_)
          obtain ⟨rfl, rfl⟩ := hO
          refine go_ws (ws' := C_X5_list K a a_codes a_left a_right a_sets b1 b1_berths b2 b1_pitch b1_loud b1_depth b1_from b1_to b1_mate n_b2 o17.1 o17.2.1 o17.2.2.1 o17.2.2.2.1 o17.2.2.2.2 s_b1_cars s_b1_sleepers s_b1_couples s_b1_law f_b1_berths f_b2) [3, 4, 5, 6, 7, 0, 1, 2] rfl rfl ?_
          refine go_eq (pc' := 75) (st' := []) rfl rfl ?_
          refine go_iinc 5 (fun y => [(5, .int y), (0, .ref a), (1, .ref b1), (2, .ref b2), (3, .int x3), (4, .int x4)]) hF dX5_list_75 rfl rfl (Nat.le_of_ble_eq_true rfl) (fun _ => rfl) (fun v18 hF => ?_)
          refine go_goto 25 dX5_list_78 (by decide) ?_
          refine go_loc (L' := [(0, .ref a), (1, .ref b1), (2, .ref b2), (3, .int x3), (4, .int x4), (5, .int v18)]) [1, 2, 3, 4, 5, 0] rfl ?_
          exact hk25 o17.1 o17.2.1 o17.2.2.1 o17.2.2.2.1 o17.2.2.2.2 x3 x4 v18 hF
theorem GL_X5_list_25 {K : gK} {X : gX} {wi : va_W} {o : Int32 × (Nat → Int32) × (Nat → Int32) × (Nat → Int32) × (Nat → Int32)} (N : Nat) (n_b2 : Nat) (s_b1_cars : Int32) (s_b1_sleepers : Int32) (f_b1_berths : Nat → Int32) (f_b2 : Nat → Int32) (a : Nat) (a_codes : Nat) (a_left : Nat) (a_right : Nat) (a_sets : Nat) (b1 : Nat) (b1_berths : Nat) (b2 : Nat) (b1_pitch : Nat) (b1_loud : Nat) (b1_depth : Nat) (b1_from : Nat) (b1_to : Nat) (b1_mate : Nat) (s_b1_couples : Int32) (s_b1_law : Int32) (hR : gR K X M_X5_list wi (O_X5_list K a a_codes a_left a_right a_sets b1 b1_berths b2 b1_pitch b1_loud b1_depth b1_from b1_to b1_mate n_b2 s_b1_couples s_b1_law s_b1_cars s_b1_sleepers f_b1_berths f_b2 o)) (k7 : Int32 → (Nat → Int32) → (Nat → Int32) → (Nat → Int32) → (Nat → Int32) → Int32 → Option (Int32 × (Nat → Int32) × (Nat → Int32) × (Nat → Int32) × (Nat → Int32))) (hk7 : ∀ (s_a_many : Int32) (f_a_codes : Nat → Int32) (f_a_left : Nat → Int32) (f_a_right : Nat → Int32) (f_a_sets : Nat → Int32) (x3 : Int32), k7 s_a_many f_a_codes f_a_left f_a_right f_a_sets x3 = some o → Go K X M_X5_list 0 0 (C_X5_list K a a_codes a_left a_right a_sets b1 b1_berths b2 b1_pitch b1_loud b1_depth b1_from b1_to b1_mate n_b2 s_a_many f_a_codes f_a_left f_a_right f_a_sets s_b1_cars s_b1_sleepers s_b1_couples s_b1_law f_b1_berths f_b2) [(0, .ref a), (1, .ref b1), (2, .ref b2), (3, .int x3)] 7 []) : ∀ (fuel : Nat) (s_a_many : Int32) (f_a_codes : Nat → Int32) (f_a_left : Nat → Int32) (f_a_right : Nat → Int32) (f_a_sets : Nat → Int32) (x3 : Int32) (x4 : Int32) (x5 : Int32), F_X5_list_25 N n_b2 s_b1_cars s_b1_sleepers f_b1_berths f_b2 k7 fuel s_a_many f_a_codes f_a_left f_a_right f_a_sets x3 x4 x5 = some o → Go K X M_X5_list 0 0 (C_X5_list K a a_codes a_left a_right a_sets b1 b1_berths b2 b1_pitch b1_loud b1_depth b1_from b1_to b1_mate n_b2 s_a_many f_a_codes f_a_left f_a_right f_a_sets s_b1_cars s_b1_sleepers s_b1_couples s_b1_law f_b1_berths f_b2) [(0, .ref a), (1, .ref b1), (2, .ref b2), (3, .int x3), (4, .int x4), (5, .int x5)] 25 [] :=
  lq8_elim (fun self hs s_a_many f_a_codes f_a_left f_a_right f_a_sets x3 x4 x5 hF => G_X5_list_25 N n_b2 s_b1_cars s_b1_sleepers f_b1_berths f_b2 a a_codes a_left a_right a_sets b1 b1_berths b2 b1_pitch b1_loud b1_depth b1_from b1_to b1_mate s_b1_couples s_b1_law hR k7 hk7 self hs s_a_many f_a_codes f_a_left f_a_right f_a_sets x3 x4 x5 hF)
noncomputable def B_X5_list_7 (N : Nat) (n_b2 : Nat) (s_b1_cars : Int32) (s_b1_sleepers : Int32) (f_b1_berths : Nat → Int32) (f_b2 : Nat → Int32) (k7 : Int32 → (Nat → Int32) → (Nat → Int32) → (Nat → Int32) → (Nat → Int32) → Int32 → Option (Int32 × (Nat → Int32) × (Nat → Int32) × (Nat → Int32) × (Nat → Int32))) (s_a_many : Int32) (f_a_codes : Nat → Int32) (f_a_left : Nat → Int32) (f_a_right : Nat → Int32) (f_a_sets : Nat → Int32) (x3 : Int32) : Option (Int32 × (Nat → Int32) × (Nat → Int32) × (Nat → Int32) × (Nat → Int32)) := if s_b1_sleepers ≤ x3 then F_X5_list_89 N n_b2 s_b1_cars s_b1_sleepers f_b1_berths f_b2 N s_a_many f_a_codes f_a_left f_a_right f_a_sets (0 : Int32) else bnd (F_X8_carOf N n_b2 f_b2 x3) (fun o11 => F_X5_list_25 N n_b2 s_b1_cars s_b1_sleepers f_b1_berths f_b2 k7 N s_a_many f_a_codes f_a_left f_a_right f_a_sets x3 o11 (0 : Int32))
noncomputable def F_X5_list_7 (N : Nat) (n_b2 : Nat) (s_b1_cars : Int32) (s_b1_sleepers : Int32) (f_b1_berths : Nat → Int32) (f_b2 : Nat → Int32)  : Nat → Int32 → (Nat → Int32) → (Nat → Int32) → (Nat → Int32) → (Nat → Int32) → Int32 → Option (Int32 × (Nat → Int32) × (Nat → Int32) × (Nat → Int32) × (Nat → Int32)) := lq6 (fun self => B_X5_list_7 N n_b2 s_b1_cars s_b1_sleepers f_b1_berths f_b2  self)
set_option maxHeartbeats 4000000 in
theorem G_X5_list_7 {K : gK} {X : gX} {wi : va_W} {o : Int32 × (Nat → Int32) × (Nat → Int32) × (Nat → Int32) × (Nat → Int32)} (N : Nat) (n_b2 : Nat) (s_b1_cars : Int32) (s_b1_sleepers : Int32) (f_b1_berths : Nat → Int32) (f_b2 : Nat → Int32) (a : Nat) (a_codes : Nat) (a_left : Nat) (a_right : Nat) (a_sets : Nat) (b1 : Nat) (b1_berths : Nat) (b2 : Nat) (b1_pitch : Nat) (b1_loud : Nat) (b1_depth : Nat) (b1_from : Nat) (b1_to : Nat) (b1_mate : Nat) (s_b1_couples : Int32) (s_b1_law : Int32) (hR : gR K X M_X5_list wi (O_X5_list K a a_codes a_left a_right a_sets b1 b1_berths b2 b1_pitch b1_loud b1_depth b1_from b1_to b1_mate n_b2 s_b1_couples s_b1_law s_b1_cars s_b1_sleepers f_b1_berths f_b2 o)) (k7 : Int32 → (Nat → Int32) → (Nat → Int32) → (Nat → Int32) → (Nat → Int32) → Int32 → Option (Int32 × (Nat → Int32) × (Nat → Int32) × (Nat → Int32) × (Nat → Int32))) (hk7 : ∀ (s_a_many : Int32) (f_a_codes : Nat → Int32) (f_a_left : Nat → Int32) (f_a_right : Nat → Int32) (f_a_sets : Nat → Int32) (x3 : Int32), k7 s_a_many f_a_codes f_a_left f_a_right f_a_sets x3 = some o → Go K X M_X5_list 0 0 (C_X5_list K a a_codes a_left a_right a_sets b1 b1_berths b2 b1_pitch b1_loud b1_depth b1_from b1_to b1_mate n_b2 s_a_many f_a_codes f_a_left f_a_right f_a_sets s_b1_cars s_b1_sleepers s_b1_couples s_b1_law f_b1_berths f_b2) [(0, .ref a), (1, .ref b1), (2, .ref b2), (3, .int x3)] 7 []) (s_a_many : Int32) (f_a_codes : Nat → Int32) (f_a_left : Nat → Int32) (f_a_right : Nat → Int32) (f_a_sets : Nat → Int32) (x3 : Int32) (hF : B_X5_list_7 N n_b2 s_b1_cars s_b1_sleepers f_b1_berths f_b2 k7 s_a_many f_a_codes f_a_left f_a_right f_a_sets x3 = some o) : Go K X M_X5_list 0 0 (C_X5_list K a a_codes a_left a_right a_sets b1 b1_berths b2 b1_pitch b1_loud b1_depth b1_from b1_to b1_mate n_b2 s_a_many f_a_codes f_a_left f_a_right f_a_sets s_b1_cars s_b1_sleepers s_b1_couples s_b1_law f_b1_berths f_b2) [(0, .ref a), (1, .ref b1), (2, .ref b2), (3, .int x3)] 7 [] := by
  unfold B_X5_list_7 at hF
  refine go_iload_n 3 dX5_list_7 rfl rfl ?_
  refine go_aload_n 1 dX5_list_8 rfl rfl ?_
  refine go_get 7 5 1 hcX7 inX7 (Nat.le_of_ble_eq_true rfl) wd136 rfl rfl dX5_list_9 ?_
  refine go_icmp_ge 87 hF dX5_list_12 (by decide) (fun hF => ?_) (fun hF => ?_)
  · refine go_iconst (v := (0 : Int32)) dX5_list_87 (by decide) ?_
    refine go_istore_n [(3, .int (0 : Int32)), (0, .ref a), (1, .ref b1), (2, .ref b2)] dX5_list_88 rfl (Nat.le_of_ble_eq_true rfl) rfl ?_
    refine go_loc (L' := [(0, .ref a), (1, .ref b1), (2, .ref b2), (3, .int (0 : Int32))]) [1, 2, 3, 0] rfl ?_
    exact GL_X5_list_89 N n_b2 s_b1_cars s_b1_sleepers f_b1_berths f_b2 a a_codes a_left a_right a_sets b1 b1_berths b2 b1_pitch b1_loud b1_depth b1_from b1_to b1_mate s_b1_couples s_b1_law hR  N s_a_many f_a_codes f_a_left f_a_right f_a_sets (0 : Int32) hF
  · refine go_aload_n 2 dX5_list_15 rfl rfl ?_
    refine go_iload_n 3 dX5_list_16 rfl rfl ?_
    obtain ⟨o11, ho11, hF⟩ := bnd_elim hF
    refine go_callSN (As := [.ref b2, .int x3]) (rest := []) (wr := [(a, .inr (5, [.int s_a_many, .ref a_codes, .ref a_left, .ref a_right, .ref a_sets])), (a_codes, .inl (kI K, 52, .inl f_a_codes)), (a_left, .inl (kI K, 52, .inl f_a_left)), (a_right, .inl (kI K, 52, .inl f_a_right)), (a_sets, .inl (kI K, 52, .inl f_a_sets)), (b1, .inr (7, [.int s_b1_cars, .int s_b1_sleepers, .int s_b1_couples, .int s_b1_law, .ref b1_berths, .ref b1_pitch, .ref b1_loud, .ref b1_depth, .ref b1_from, .ref b1_to, .ref b1_mate])), (b1_berths, .inl (kI K, 4, .inl f_b1_berths))]) (kn_X8_carOf K N b2 n_b2 f_b2 x3 ho11) ok_X8_carOf ⟨Nat.le_of_ble_eq_true rfl, Nat.le_of_ble_eq_true rfl⟩ ⟨Nat.le_of_ble_eq_true rfl, Nat.le_of_ble_eq_true rfl⟩ ns17 rfl rfl (Nat.le_of_ble_eq_true rfl) dX5_list_17 [7] [0, 1, 2, 3, 4, 5, 6] rfl rfl rfl rfl (by decide) (fun r wo hO => ?_)
    obtain ⟨rfl, rfl⟩ := hO
    refine go_ws (ws' := C_X5_list K a a_codes a_left a_right a_sets b1 b1_berths b2 b1_pitch b1_loud b1_depth b1_from b1_to b1_mate n_b2 s_a_many f_a_codes f_a_left f_a_right f_a_sets s_b1_cars s_b1_sleepers s_b1_couples s_b1_law f_b1_berths f_b2) [0, 1, 2, 3, 4, 5, 6, 7] rfl rfl ?_
    refine go_eq (pc' := 20) (st' := [.int o11]) rfl rfl ?_
    refine go_istore [(4, .int o11), (0, .ref a), (1, .ref b1), (2, .ref b2), (3, .int x3)] dX5_list_20 (Nat.le_of_ble_eq_true rfl) rfl ?_
    refine go_iconst (v := (0 : Int32)) dX5_list_22 (by decide) ?_
    refine go_istore [(5, .int (0 : Int32)), (4, .int o11), (0, .ref a), (1, .ref b1), (2, .ref b2), (3, .int x3)] dX5_list_23 (Nat.le_of_ble_eq_true rfl) rfl ?_
    refine go_loc (L' := [(0, .ref a), (1, .ref b1), (2, .ref b2), (3, .int x3), (4, .int o11), (5, .int (0 : Int32))]) [2, 3, 4, 5, 1, 0] rfl ?_
    exact GL_X5_list_25 N n_b2 s_b1_cars s_b1_sleepers f_b1_berths f_b2 a a_codes a_left a_right a_sets b1 b1_berths b2 b1_pitch b1_loud b1_depth b1_from b1_to b1_mate s_b1_couples s_b1_law hR k7 hk7 N s_a_many f_a_codes f_a_left f_a_right f_a_sets x3 o11 (0 : Int32) hF
theorem GL_X5_list_7 {K : gK} {X : gX} {wi : va_W} {o : Int32 × (Nat → Int32) × (Nat → Int32) × (Nat → Int32) × (Nat → Int32)} (N : Nat) (n_b2 : Nat) (s_b1_cars : Int32) (s_b1_sleepers : Int32) (f_b1_berths : Nat → Int32) (f_b2 : Nat → Int32) (a : Nat) (a_codes : Nat) (a_left : Nat) (a_right : Nat) (a_sets : Nat) (b1 : Nat) (b1_berths : Nat) (b2 : Nat) (b1_pitch : Nat) (b1_loud : Nat) (b1_depth : Nat) (b1_from : Nat) (b1_to : Nat) (b1_mate : Nat) (s_b1_couples : Int32) (s_b1_law : Int32) (hR : gR K X M_X5_list wi (O_X5_list K a a_codes a_left a_right a_sets b1 b1_berths b2 b1_pitch b1_loud b1_depth b1_from b1_to b1_mate n_b2 s_b1_couples s_b1_law s_b1_cars s_b1_sleepers f_b1_berths f_b2 o))  : ∀ (fuel : Nat) (s_a_many : Int32) (f_a_codes : Nat → Int32) (f_a_left : Nat → Int32) (f_a_right : Nat → Int32) (f_a_sets : Nat → Int32) (x3 : Int32), F_X5_list_7 N n_b2 s_b1_cars s_b1_sleepers f_b1_berths f_b2  fuel s_a_many f_a_codes f_a_left f_a_right f_a_sets x3 = some o → Go K X M_X5_list 0 0 (C_X5_list K a a_codes a_left a_right a_sets b1 b1_berths b2 b1_pitch b1_loud b1_depth b1_from b1_to b1_mate n_b2 s_a_many f_a_codes f_a_left f_a_right f_a_sets s_b1_cars s_b1_sleepers s_b1_couples s_b1_law f_b1_berths f_b2) [(0, .ref a), (1, .ref b1), (2, .ref b2), (3, .int x3)] 7 [] :=
  lq6_elim (fun self hs s_a_many f_a_codes f_a_left f_a_right f_a_sets x3 hF => G_X5_list_7 N n_b2 s_b1_cars s_b1_sleepers f_b1_berths f_b2 a a_codes a_left a_right a_sets b1 b1_berths b2 b1_pitch b1_loud b1_depth b1_from b1_to b1_mate s_b1_couples s_b1_law hR  self hs s_a_many f_a_codes f_a_left f_a_right f_a_sets x3 hF)
noncomputable def F_X5_list (N : Nat) (n_b2 : Nat) (s_a_many : Int32) (f_a_codes : Nat → Int32) (f_a_left : Nat → Int32) (f_a_right : Nat → Int32) (f_a_sets : Nat → Int32) (s_b1_cars : Int32) (s_b1_sleepers : Int32) (f_b1_berths : Nat → Int32) (f_b2 : Nat → Int32) : Option (Int32 × (Nat → Int32) × (Nat → Int32) × (Nat → Int32) × (Nat → Int32)) := F_X5_list_7 N n_b2 s_b1_cars s_b1_sleepers f_b1_berths f_b2 N (0 : Int32) f_a_codes f_a_left f_a_right f_a_sets (0 : Int32)
set_option maxHeartbeats 4000000 in
theorem kn_X5_list (K : gK) (N : Nat) (a : Nat) (a_codes : Nat) (a_left : Nat) (a_right : Nat) (a_sets : Nat) (b1 : Nat) (b1_berths : Nat) (b2 : Nat) (b1_pitch : Nat) (b1_loud : Nat) (b1_depth : Nat) (b1_from : Nat) (b1_to : Nat) (b1_mate : Nat) (n_b2 : Nat) (s_b1_couples : Int32) (s_b1_law : Int32) (s_a_many : Int32) (f_a_codes : Nat → Int32) (f_a_left : Nat → Int32) (f_a_right : Nat → Int32) (f_a_sets : Nat → Int32) (s_b1_cars : Int32) (s_b1_sleepers : Int32) (f_b1_berths : Nat → Int32) (f_b2 : Nat → Int32) {o : Int32 × (Nat → Int32) × (Nat → Int32) × (Nat → Int32) × (Nat → Int32)} (hF : F_X5_list N n_b2 s_a_many f_a_codes f_a_left f_a_right f_a_sets s_b1_cars s_b1_sleepers f_b1_berths f_b2 = some o) : Kn K M_X5_list [.ref a, .ref b1, .ref b2] (C_X5_list K a a_codes a_left a_right a_sets b1 b1_berths b2 b1_pitch b1_loud b1_depth b1_from b1_to b1_mate n_b2 s_a_many f_a_codes f_a_left f_a_right f_a_sets s_b1_cars s_b1_sleepers s_b1_couples s_b1_law f_b1_berths f_b2) (O_X5_list K a a_codes a_left a_right a_sets b1 b1_berths b2 b1_pitch b1_loud b1_depth b1_from b1_to b1_mate n_b2 s_b1_couples s_b1_law s_b1_cars s_b1_sleepers f_b1_berths f_b2 o) := by
  refine kn_of (by decide +kernel) (Nat.le_of_ble_eq_true rfl) (fun X hR => ?_)
  refine go_loc (L' := [(0, .ref a), (1, .ref b1), (2, .ref b2)]) [0, 1, 2] rfl ?_
  unfold F_X5_list at hF
  refine go_aload_n 0 dX5_list_0 rfl rfl ?_
  refine go_iconst (v := (0 : Int32)) dX5_list_1 (by decide) ?_
  refine go_put 5 0 0 (C_X5_list K a a_codes a_left a_right a_sets b1 b1_berths b2 b1_pitch b1_loud b1_depth b1_from b1_to b1_mate n_b2 (0 : Int32) f_a_codes f_a_left f_a_right f_a_sets s_b1_cars s_b1_sleepers s_b1_couples s_b1_law f_b1_berths f_b2) hcX5 inX5 tyX5_ok nmX5 (Nat.le_of_ble_eq_true rfl) wd312 rfl rfl rfl rfl (Nat.le_of_ble_eq_true rfl) rfl dX5_list_2 ?_
  refine go_iconst (v := (0 : Int32)) dX5_list_5 (by decide) ?_
  refine go_istore_n [(3, .int (0 : Int32)), (0, .ref a), (1, .ref b1), (2, .ref b2)] dX5_list_6 rfl (Nat.le_of_ble_eq_true rfl) rfl ?_
  refine go_loc (L' := [(0, .ref a), (1, .ref b1), (2, .ref b2), (3, .int (0 : Int32))]) [1, 2, 3, 0] rfl ?_
  exact GL_X5_list_7 N n_b2 s_b1_cars s_b1_sleepers f_b1_berths f_b2 a a_codes a_left a_right a_sets b1 b1_berths b2 b1_pitch b1_loud b1_depth b1_from b1_to b1_mate s_b1_couples s_b1_law hR  N (0 : Int32) f_a_codes f_a_left f_a_right f_a_sets (0 : Int32) hF
theorem ok_X5_list : gOkV M_X5_list 2 := ⟨⟨wd701, wd74, by decide +kernel, by decide +kernel, by decide +kernel⟩, wd699, wd700⟩
def C_X5_go (K : gK) (a : Nat) (a_left : Nat) (a_right : Nat) (a_sets : Nat) (b2 : Nat) (a_codes : Nat) (n_b2 : Nat) (s_a_many : Int32) (f_a_left : Nat → Int32) (f_a_right : Nat → Int32) (f_a_sets : Nat → Int32) (f_b2 : Nat → Int32) : va_W := [(a, .inr (5, [.int s_a_many, .ref a_codes, .ref a_left, .ref a_right, .ref a_sets])), (a_left, .inl (kI K, 52, .inl f_a_left)), (a_right, .inl (kI K, 52, .inl f_a_right)), (a_sets, .inl (kI K, 52, .inl f_a_sets)), (b2, .inl (kI K, n_b2, .inl f_b2))]
def M_X5_go : gM := (yX5_go, cX5_go, 5, none, { frames := 1, cells := 0, slots := 0, locals := 22 })
def O_X5_go (K : gK) (a : Nat) (a_left : Nat) (a_right : Nat) (a_sets : Nat) (b2 : Nat) (a_codes : Nat) (n_b2 : Nat) (s_a_many : Int32) (f_a_left : Nat → Int32) (f_a_right : Nat → Int32) (f_a_sets : Nat → Int32) (o : (Nat → Int32)) : Option Value → va_W → Prop := fun r w => r = none ∧ w = C_X5_go K a a_left a_right a_sets b2 a_codes n_b2 s_a_many f_a_left f_a_right f_a_sets o
noncomputable def F_X5_go (n_b2 : Nat) (f_a_left : Nat → Int32) (f_a_right : Nat → Int32) (f_a_sets : Nat → Int32) (f_b2 : Nat → Int32) (p1 : Int32) : Option ((Nat → Int32)) := bnd (F_X8_at 52 f_a_left p1) (fun o1 => bnd (F_X8_at 52 f_a_right p1) (fun o2 => bnd (F_X8_at n_b2 f_b2 o1) (fun o3 => bnd (F_X8_at 52 f_a_sets p1) (fun o4 => bnd (F_X8_lay n_b2 f_b2 o1 (o3 ^^^ o4)) (fun o5 => bnd (F_X8_at n_b2 o5 o2) (fun o6 => bnd (F_X8_at 52 f_a_sets p1) (fun o7 => bnd (F_X8_lay n_b2 o5 o2 (o6 ^^^ o7)) (fun o8 => some o8))))))))
set_option maxHeartbeats 4000000 in
theorem kn_X5_go (K : gK) (a : Nat) (a_left : Nat) (a_right : Nat) (a_sets : Nat) (b2 : Nat) (a_codes : Nat) (n_b2 : Nat) (s_a_many : Int32) (f_a_left : Nat → Int32) (f_a_right : Nat → Int32) (f_a_sets : Nat → Int32) (f_b2 : Nat → Int32) (p1 : Int32) {o : (Nat → Int32)} (hF : F_X5_go n_b2 f_a_left f_a_right f_a_sets f_b2 p1 = some o) : Kn K M_X5_go [.ref a, .int p1, .ref b2] (C_X5_go K a a_left a_right a_sets b2 a_codes n_b2 s_a_many f_a_left f_a_right f_a_sets f_b2) (O_X5_go K a a_left a_right a_sets b2 a_codes n_b2 s_a_many f_a_left f_a_right f_a_sets o) := by
  refine kn_of (by decide +kernel) (Nat.le_of_ble_eq_true rfl) (fun X hR => ?_)
  refine go_loc (L' := [(0, .ref a), (1, .int p1), (2, .ref b2)]) [0, 1, 2] rfl ?_
  unfold F_X5_go at hF
  refine go_aload_n 0 dX5_go_0 rfl rfl ?_
  refine go_get 5 0 2 hcX5 inX5 (Nat.le_of_ble_eq_true rfl) wd316 rfl rfl dX5_go_1 ?_
  refine go_iload_n 1 dX5_go_4 rfl rfl ?_
  obtain ⟨o1, ho1, hF⟩ := bnd_elim hF
  refine go_callSN (As := [.ref a_left, .int p1]) (rest := []) (wr := [(a, .inr (5, [.int s_a_many, .ref a_codes, .ref a_left, .ref a_right, .ref a_sets])), (a_right, .inl (kI K, 52, .inl f_a_right)), (a_sets, .inl (kI K, 52, .inl f_a_sets)), (b2, .inl (kI K, n_b2, .inl f_b2))]) (kn_X8_at K a_left 52 f_a_left p1 ho1) ok_X8_at ⟨Nat.le_of_ble_eq_true rfl, Nat.le_of_ble_eq_true rfl⟩ ⟨Nat.le_of_ble_eq_true rfl, Nat.le_of_ble_eq_true rfl⟩ ns20 rfl rfl (Nat.le_of_ble_eq_true rfl) dX5_go_5 [1] [0, 2, 3, 4] rfl rfl rfl rfl (by decide) (fun r wo hO => ?_)
  obtain ⟨rfl, rfl⟩ := hO
  refine go_ws (ws' := C_X5_go K a a_left a_right a_sets b2 a_codes n_b2 s_a_many f_a_left f_a_right f_a_sets f_b2) [0, 4, 1, 2, 3] rfl rfl ?_
  refine go_eq (pc' := 8) (st' := [.int o1]) rfl rfl ?_
  refine go_istore_n [(3, .int o1), (0, .ref a), (1, .int p1), (2, .ref b2)] dX5_go_8 rfl (Nat.le_of_ble_eq_true rfl) rfl ?_
  refine go_aload_n 1 dX5_go_9 rfl rfl ?_
  refine go_get 5 0 3 hcX5 inX5 (Nat.le_of_ble_eq_true rfl) wd317 rfl rfl dX5_go_10 ?_
  refine go_iload_n 2 dX5_go_13 rfl rfl ?_
  obtain ⟨o2, ho2, hF⟩ := bnd_elim hF
  refine go_callSN (As := [.ref a_right, .int p1]) (rest := []) (wr := [(a, .inr (5, [.int s_a_many, .ref a_codes, .ref a_left, .ref a_right, .ref a_sets])), (a_left, .inl (kI K, 52, .inl f_a_left)), (a_sets, .inl (kI K, 52, .inl f_a_sets)), (b2, .inl (kI K, n_b2, .inl f_b2))]) (kn_X8_at K a_right 52 f_a_right p1 ho2) ok_X8_at ⟨Nat.le_of_ble_eq_true rfl, Nat.le_of_ble_eq_true rfl⟩ ⟨Nat.le_of_ble_eq_true rfl, Nat.le_of_ble_eq_true rfl⟩ ns20 rfl rfl (Nat.le_of_ble_eq_true rfl) dX5_go_14 [2] [0, 1, 3, 4] rfl rfl rfl rfl (by decide) (fun r wo hO => ?_)
  obtain ⟨rfl, rfl⟩ := hO
  refine go_ws (ws' := C_X5_go K a a_left a_right a_sets b2 a_codes n_b2 s_a_many f_a_left f_a_right f_a_sets f_b2) [0, 1, 4, 2, 3] rfl rfl ?_
  refine go_eq (pc' := 17) (st' := [.int o2]) rfl rfl ?_
  refine go_istore [(4, .int o2), (3, .int o1), (0, .ref a), (1, .int p1), (2, .ref b2)] dX5_go_17 (Nat.le_of_ble_eq_true rfl) rfl ?_
  refine go_aload_n 4 dX5_go_19 rfl rfl ?_
  refine go_iload_n 1 dX5_go_20 rfl rfl ?_
  refine go_aload_n 4 dX5_go_21 rfl rfl ?_
  refine go_iload_n 1 dX5_go_22 rfl rfl ?_
  obtain ⟨o3, ho3, hF⟩ := bnd_elim hF
  refine go_callSN (As := [.ref b2, .int o1]) (rest := [.int o1, .ref b2]) (wr := [(a, .inr (5, [.int s_a_many, .ref a_codes, .ref a_left, .ref a_right, .ref a_sets])), (a_left, .inl (kI K, 52, .inl f_a_left)), (a_right, .inl (kI K, 52, .inl f_a_right)), (a_sets, .inl (kI K, 52, .inl f_a_sets))]) (kn_X8_at K b2 n_b2 f_b2 o1 ho3) ok_X8_at ⟨Nat.le_of_ble_eq_true rfl, Nat.le_of_ble_eq_true rfl⟩ ⟨Nat.le_of_ble_eq_true rfl, Nat.le_of_ble_eq_true rfl⟩ ns20 rfl rfl (Nat.le_of_ble_eq_true rfl) dX5_go_23 [4] [0, 1, 2, 3] rfl rfl rfl rfl (by decide) (fun r wo hO => ?_)
  obtain ⟨rfl, rfl⟩ := hO
  refine go_ws (ws' := C_X5_go K a a_left a_right a_sets b2 a_codes n_b2 s_a_many f_a_left f_a_right f_a_sets f_b2) [0, 1, 2, 3, 4] rfl rfl ?_
  refine go_eq (pc' := 26) (st' := [.int o3, .int o1, .ref b2]) rfl rfl ?_
  refine go_aload_n 2 dX5_go_26 rfl rfl ?_
  refine go_get 5 0 4 hcX5 inX5 (Nat.le_of_ble_eq_true rfl) wd318 rfl rfl dX5_go_27 ?_
  refine go_iload_n 3 dX5_go_30 rfl rfl ?_
  obtain ⟨o4, ho4, hF⟩ := bnd_elim hF
  refine go_callSN (As := [.ref a_sets, .int p1]) (rest := [.int o3, .int o1, .ref b2]) (wr := [(a, .inr (5, [.int s_a_many, .ref a_codes, .ref a_left, .ref a_right, .ref a_sets])), (a_left, .inl (kI K, 52, .inl f_a_left)), (a_right, .inl (kI K, 52, .inl f_a_right)), (b2, .inl (kI K, n_b2, .inl f_b2))]) (kn_X8_at K a_sets 52 f_a_sets p1 ho4) ok_X8_at ⟨Nat.le_of_ble_eq_true rfl, Nat.le_of_ble_eq_true rfl⟩ ⟨Nat.le_of_ble_eq_true rfl, Nat.le_of_ble_eq_true rfl⟩ ns20 rfl rfl (Nat.le_of_ble_eq_true rfl) dX5_go_31 [3] [0, 1, 2, 4] rfl rfl rfl rfl (by decide) (fun r wo hO => ?_)
  obtain ⟨rfl, rfl⟩ := hO
  refine go_ws (ws' := C_X5_go K a a_left a_right a_sets b2 a_codes n_b2 s_a_many f_a_left f_a_right f_a_sets f_b2) [0, 1, 2, 4, 3] rfl rfl ?_
  refine go_eq (pc' := 34) (st' := [.int o4, .int o3, .int o1, .ref b2]) rfl rfl ?_
  refine go_ixor dX5_go_34 ?_
  obtain ⟨o5, ho5, hF⟩ := bnd_elim hF
  refine go_callSN (As := [.ref b2, .int o1, .int (o3 ^^^ o4)]) (rest := []) (wr := [(a, .inr (5, [.int s_a_many, .ref a_codes, .ref a_left, .ref a_right, .ref a_sets])), (a_left, .inl (kI K, 52, .inl f_a_left)), (a_right, .inl (kI K, 52, .inl f_a_right)), (a_sets, .inl (kI K, 52, .inl f_a_sets))]) (kn_X8_lay K b2 n_b2 f_b2 o1 (o3 ^^^ o4) ho5) ok_X8_lay ⟨Nat.le_of_ble_eq_true rfl, Nat.le_of_ble_eq_true rfl⟩ ⟨Nat.le_of_ble_eq_true rfl, Nat.le_of_ble_eq_true rfl⟩ ns19 rfl rfl (Nat.le_of_ble_eq_true rfl) dX5_go_35 [4] [0, 1, 2, 3] rfl rfl rfl rfl (by decide) (fun r wo hO => ?_)
  obtain ⟨rfl, rfl⟩ := hO
  refine go_ws (ws' := C_X5_go K a a_left a_right a_sets b2 a_codes n_b2 s_a_many f_a_left f_a_right f_a_sets o5) [0, 1, 2, 3, 4] rfl rfl ?_
  refine go_eq (pc' := 38) (st' := []) rfl rfl ?_
  refine go_aload_n 4 dX5_go_38 rfl rfl ?_
  refine go_iload 0 dX5_go_39 rfl ?_
  refine go_aload_n 4 dX5_go_41 rfl rfl ?_
  refine go_iload 0 dX5_go_42 rfl ?_
  obtain ⟨o6, ho6, hF⟩ := bnd_elim hF
  refine go_callSN (As := [.ref b2, .int o2]) (rest := [.int o2, .ref b2]) (wr := [(a, .inr (5, [.int s_a_many, .ref a_codes, .ref a_left, .ref a_right, .ref a_sets])), (a_left, .inl (kI K, 52, .inl f_a_left)), (a_right, .inl (kI K, 52, .inl f_a_right)), (a_sets, .inl (kI K, 52, .inl f_a_sets))]) (kn_X8_at K b2 n_b2 o5 o2 ho6) ok_X8_at ⟨Nat.le_of_ble_eq_true rfl, Nat.le_of_ble_eq_true rfl⟩ ⟨Nat.le_of_ble_eq_true rfl, Nat.le_of_ble_eq_true rfl⟩ ns20 rfl rfl (Nat.le_of_ble_eq_true rfl) dX5_go_44 [4] [0, 1, 2, 3] rfl rfl rfl rfl (by decide) (fun r wo hO => ?_)
  obtain ⟨rfl, rfl⟩ := hO
  refine go_ws (ws' := C_X5_go K a a_left a_right a_sets b2 a_codes n_b2 s_a_many f_a_left f_a_right f_a_sets o5) [0, 1, 2, 3, 4] rfl rfl ?_
  refine go_eq (pc' := 47) (st' := [.int o6, .int o2, .ref b2]) rfl rfl ?_
  refine go_aload_n 2 dX5_go_47 rfl rfl ?_
  refine go_get 5 0 4 hcX5 inX5 (Nat.le_of_ble_eq_true rfl) wd318 rfl rfl dX5_go_48 ?_
  refine go_iload_n 3 dX5_go_51 rfl rfl ?_
  obtain ⟨o7, ho7, hF⟩ := bnd_elim hF
  refine go_callSN (As := [.ref a_sets, .int p1]) (rest := [.int o6, .int o2, .ref b2]) (wr := [(a, .inr (5, [.int s_a_many, .ref a_codes, .ref a_left, .ref a_right, .ref a_sets])), (a_left, .inl (kI K, 52, .inl f_a_left)), (a_right, .inl (kI K, 52, .inl f_a_right)), (b2, .inl (kI K, n_b2, .inl o5))]) (kn_X8_at K a_sets 52 f_a_sets p1 ho7) ok_X8_at ⟨Nat.le_of_ble_eq_true rfl, Nat.le_of_ble_eq_true rfl⟩ ⟨Nat.le_of_ble_eq_true rfl, Nat.le_of_ble_eq_true rfl⟩ ns20 rfl rfl (Nat.le_of_ble_eq_true rfl) dX5_go_52 [3] [0, 1, 2, 4] rfl rfl rfl rfl (by decide) (fun r wo hO => ?_)
  obtain ⟨rfl, rfl⟩ := hO
  refine go_ws (ws' := C_X5_go K a a_left a_right a_sets b2 a_codes n_b2 s_a_many f_a_left f_a_right f_a_sets o5) [0, 1, 2, 4, 3] rfl rfl ?_
  refine go_eq (pc' := 55) (st' := [.int o7, .int o6, .int o2, .ref b2]) rfl rfl ?_
  refine go_ixor dX5_go_55 ?_
  obtain ⟨o8, ho8, hF⟩ := bnd_elim hF
  refine go_callSN (As := [.ref b2, .int o2, .int (o6 ^^^ o7)]) (rest := []) (wr := [(a, .inr (5, [.int s_a_many, .ref a_codes, .ref a_left, .ref a_right, .ref a_sets])), (a_left, .inl (kI K, 52, .inl f_a_left)), (a_right, .inl (kI K, 52, .inl f_a_right)), (a_sets, .inl (kI K, 52, .inl f_a_sets))]) (kn_X8_lay K b2 n_b2 o5 o2 (o6 ^^^ o7) ho8) ok_X8_lay ⟨Nat.le_of_ble_eq_true rfl, Nat.le_of_ble_eq_true rfl⟩ ⟨Nat.le_of_ble_eq_true rfl, Nat.le_of_ble_eq_true rfl⟩ ns19 rfl rfl (Nat.le_of_ble_eq_true rfl) dX5_go_56 [4] [0, 1, 2, 3] rfl rfl rfl rfl (by decide) (fun r wo hO => ?_)
  obtain ⟨rfl, rfl⟩ := hO
  refine go_ws (ws' := C_X5_go K a a_left a_right a_sets b2 a_codes n_b2 s_a_many f_a_left f_a_right f_a_sets o8) [0, 1, 2, 3, 4] rfl rfl ?_
  refine go_eq (pc' := 59) (st' := []) rfl rfl ?_
  exact go_vret (Om := O_X5_go K a a_left a_right a_sets b2 a_codes n_b2 s_a_many f_a_left f_a_right f_a_sets) hR hF dX5_go_59 rfl (Nat.zero_le _) (Nat.zero_le _) ⟨rfl, rfl⟩
theorem ok_X5_go : gOkV M_X5_go 2 := ⟨⟨wd716, wd74, by decide +kernel, by decide +kernel, by decide +kernel⟩, wd714, wd715⟩
