set_option maxHeartbeats 4000000 in
set_option maxRecDepth 100000 in
theorem c_SS_isSlot (l : Launch) (D : va_G) (k : Nat → ClassId) (x : Int32) : ro_i l y_SS_isSlot b_SS_isSlot 1 (some .boolean) { frames := 0, cells := 0, slots := 0, locals := 0 } D (kT k) [] [.int x] (bI (0 ≤ x.toInt ∧ x.toInt ≤ 3)) := by
  refine ro_headi (by decide) (Nat.le_of_ble_eq_true rfl) ?_
  intro p e s m below meth c ls hx hb hr hlocks hml hown hts hP hK hl
  have hown : s.vm.findClass "SlotScreen" = some m.cls := hown
  have hl : lv_has ls 1 [(0, .int x)] := hl
  refine lv_iload_n hx hb d_SS_isSlot_0 rfl (lv_at hl 0 rfl) ?_
  refine lv_if_lt (tgt := 13) hx hb d_SS_isSlot_1 (by decide) (fun c1 => ?_) (fun c1 => ?_)
  · have c1 := (z_lt0).mp c1
    refine lv_iconst (v := nI 0) hx hb d_SS_isSlot_13 (by decide +kernel) ?_
    exact ro_retz hx hb hr hlocks d_SS_isSlot_14 (by decide +kernel) (bI_f (by omega))
  · have c1 := mt (z_lt0).mpr c1
    refine lv_iload_n hx hb d_SS_isSlot_4 rfl (lv_at hl 0 rfl) ?_
    refine lv_iconst (v := nI 4) hx hb d_SS_isSlot_5 (by decide +kernel) ?_
    refine lv_icmp_ge (tgt := 13) hx hb d_SS_isSlot_6 (by decide) (fun c2 => ?_) (fun c2 => ?_)
    · have c2 := (nz_le (by omega)).mp c2
      refine lv_iconst (v := nI 0) hx hb d_SS_isSlot_13 (by decide +kernel) ?_
      exact ro_retz hx hb hr hlocks d_SS_isSlot_14 (by decide +kernel) (bI_f (by omega))
    · have c2 := mt (nz_le (by omega)).mpr c2
      refine lv_iconst (v := nI 1) hx hb d_SS_isSlot_9 (by decide +kernel) ?_
      refine lv_goto (tgt := 14) hx hb d_SS_isSlot_10 (by decide) ?_
      exact ro_retz hx hb hr hlocks d_SS_isSlot_14 (by decide +kernel) (bI_t (by omega))
set_option maxHeartbeats 4000000 in
set_option maxRecDepth 100000 in
theorem c_SS_isSlotN (l : Launch) (D : va_G) (k : Nat → ClassId) (x : Nat) (hx9 : x < 2 ^ 31) : ro_i l y_SS_isSlot b_SS_isSlot 1 (some .boolean) { frames := 0, cells := 0, slots := 0, locals := 0 } D (kT k) [] [.int (nI x)] (bI (x ≤ 3)) := by
  refine ro_headi (by decide) (Nat.le_of_ble_eq_true rfl) ?_
  intro p e s m below meth c ls hx hb hr hlocks hml hown hts hP hK hl
  have hown : s.vm.findClass "SlotScreen" = some m.cls := hown
  have hl : lv_has ls 1 [(0, .int (nI x))] := hl
  refine lv_iload_n hx hb d_SS_isSlot_0 rfl (lv_at hl 0 rfl) ?_
  refine lv_if_lt (tgt := 13) hx hb d_SS_isSlot_1 (by decide) (fun c1 => ?_) (fun c1 => ?_)
  · have c1 := (n_lt0 (by omega)).mp c1
    refine lv_iconst (v := nI 0) hx hb d_SS_isSlot_13 (by decide +kernel) ?_
    exact ro_retz hx hb hr hlocks d_SS_isSlot_14 (by decide +kernel) (bI_f (by omega))
  · have c1 := mt (n_lt0 (by omega)).mpr c1
    refine lv_iload_n hx hb d_SS_isSlot_4 rfl (lv_at hl 0 rfl) ?_
    refine lv_iconst (v := nI 4) hx hb d_SS_isSlot_5 (by decide +kernel) ?_
    refine lv_icmp_ge (tgt := 13) hx hb d_SS_isSlot_6 (by decide) (fun c2 => ?_) (fun c2 => ?_)
    · have c2 := (nI_leI (by omega) (by omega)).mp c2
      refine lv_iconst (v := nI 0) hx hb d_SS_isSlot_13 (by decide +kernel) ?_
      exact ro_retz hx hb hr hlocks d_SS_isSlot_14 (by decide +kernel) (bI_f (by omega))
    · have c2 := mt (nI_leI (by omega) (by omega)).mpr c2
      refine lv_iconst (v := nI 1) hx hb d_SS_isSlot_9 (by decide +kernel) ?_
      refine lv_goto (tgt := 14) hx hb d_SS_isSlot_10 (by decide) ?_
      exact ro_retz hx hb hr hlocks d_SS_isSlot_14 (by decide +kernel) (bI_t (by omega))
set_option maxHeartbeats 4000000 in
set_option maxRecDepth 100000 in
theorem c_SS_isPart (l : Launch) (D : va_G) (k : Nat → ClassId) (x : Int32) : ro_i l y_SS_isPart b_SS_isPart 1 (some .boolean) { frames := 0, cells := 0, slots := 0, locals := 0 } D (kT k) [] [.int x] (bI (0 ≤ x.toInt ∧ x.toInt ≤ 3)) := by
  refine ro_headi (by decide) (Nat.le_of_ble_eq_true rfl) ?_
  intro p e s m below meth c ls hx hb hr hlocks hml hown hts hP hK hl
  have hown : s.vm.findClass "SlotScreen" = some m.cls := hown
  have hl : lv_has ls 1 [(0, .int x)] := hl
  refine lv_iload_n hx hb d_SS_isPart_0 rfl (lv_at hl 0 rfl) ?_
  refine lv_if_lt (tgt := 13) hx hb d_SS_isPart_1 (by decide) (fun c1 => ?_) (fun c1 => ?_)
  · have c1 := (z_lt0).mp c1
    refine lv_iconst (v := nI 0) hx hb d_SS_isPart_13 (by decide +kernel) ?_
    exact ro_retz hx hb hr hlocks d_SS_isPart_14 (by decide +kernel) (bI_f (by omega))
  · have c1 := mt (z_lt0).mpr c1
    refine lv_iload_n hx hb d_SS_isPart_4 rfl (lv_at hl 0 rfl) ?_
    refine lv_iconst (v := nI 4) hx hb d_SS_isPart_5 (by decide +kernel) ?_
    refine lv_icmp_ge (tgt := 13) hx hb d_SS_isPart_6 (by decide) (fun c2 => ?_) (fun c2 => ?_)
    · have c2 := (nz_le (by omega)).mp c2
      refine lv_iconst (v := nI 0) hx hb d_SS_isPart_13 (by decide +kernel) ?_
      exact ro_retz hx hb hr hlocks d_SS_isPart_14 (by decide +kernel) (bI_f (by omega))
    · have c2 := mt (nz_le (by omega)).mpr c2
      refine lv_iconst (v := nI 1) hx hb d_SS_isPart_9 (by decide +kernel) ?_
      refine lv_goto (tgt := 14) hx hb d_SS_isPart_10 (by decide) ?_
      exact ro_retz hx hb hr hlocks d_SS_isPart_14 (by decide +kernel) (bI_t (by omega))
set_option maxHeartbeats 4000000 in
set_option maxRecDepth 100000 in
theorem c_SS_isPartN (l : Launch) (D : va_G) (k : Nat → ClassId) (x : Nat) (hx9 : x < 2 ^ 31) : ro_i l y_SS_isPart b_SS_isPart 1 (some .boolean) { frames := 0, cells := 0, slots := 0, locals := 0 } D (kT k) [] [.int (nI x)] (bI (x ≤ 3)) := by
  refine ro_headi (by decide) (Nat.le_of_ble_eq_true rfl) ?_
  intro p e s m below meth c ls hx hb hr hlocks hml hown hts hP hK hl
  have hown : s.vm.findClass "SlotScreen" = some m.cls := hown
  have hl : lv_has ls 1 [(0, .int (nI x))] := hl
  refine lv_iload_n hx hb d_SS_isPart_0 rfl (lv_at hl 0 rfl) ?_
  refine lv_if_lt (tgt := 13) hx hb d_SS_isPart_1 (by decide) (fun c1 => ?_) (fun c1 => ?_)
  · have c1 := (n_lt0 (by omega)).mp c1
    refine lv_iconst (v := nI 0) hx hb d_SS_isPart_13 (by decide +kernel) ?_
    exact ro_retz hx hb hr hlocks d_SS_isPart_14 (by decide +kernel) (bI_f (by omega))
  · have c1 := mt (n_lt0 (by omega)).mpr c1
    refine lv_iload_n hx hb d_SS_isPart_4 rfl (lv_at hl 0 rfl) ?_
    refine lv_iconst (v := nI 4) hx hb d_SS_isPart_5 (by decide +kernel) ?_
    refine lv_icmp_ge (tgt := 13) hx hb d_SS_isPart_6 (by decide) (fun c2 => ?_) (fun c2 => ?_)
    · have c2 := (nI_leI (by omega) (by omega)).mp c2
      refine lv_iconst (v := nI 0) hx hb d_SS_isPart_13 (by decide +kernel) ?_
      exact ro_retz hx hb hr hlocks d_SS_isPart_14 (by decide +kernel) (bI_f (by omega))
    · have c2 := mt (nI_leI (by omega) (by omega)).mpr c2
      refine lv_iconst (v := nI 1) hx hb d_SS_isPart_9 (by decide +kernel) ?_
      refine lv_goto (tgt := 14) hx hb d_SS_isPart_10 (by decide) ?_
      exact ro_retz hx hb hr hlocks d_SS_isPart_14 (by decide +kernel) (bI_t (by omega))
set_option maxHeartbeats 4000000 in
set_option maxRecDepth 100000 in
theorem c_SS_isAddress (l : Launch) (D : va_G) (k : Nat → ClassId) (x : Int32) : ro_i l y_SS_isAddress b_SS_isAddress 1 (some .boolean) { frames := 0, cells := 0, slots := 0, locals := 0 } D (kT k) [] [.int x] (bI (0 ≤ x.toInt ∧ x.toInt ≤ 255)) := by
  refine ro_headi (by decide) (Nat.le_of_ble_eq_true rfl) ?_
  intro p e s m below meth c ls hx hb hr hlocks hml hown hts hP hK hl
  have hown : s.vm.findClass "SlotScreen" = some m.cls := hown
  have hl : lv_has ls 1 [(0, .int x)] := hl
  refine lv_iload_n hx hb d_SS_isAddress_0 rfl (lv_at hl 0 rfl) ?_
  refine lv_if_lt (tgt := 15) hx hb d_SS_isAddress_1 (by decide) (fun c1 => ?_) (fun c1 => ?_)
  · have c1 := (z_lt0).mp c1
    refine lv_iconst (v := nI 0) hx hb d_SS_isAddress_15 (by decide +kernel) ?_
    exact ro_retz hx hb hr hlocks d_SS_isAddress_16 (by decide +kernel) (bI_f (by omega))
  · have c1 := mt (z_lt0).mpr c1
    refine lv_iload_n hx hb d_SS_isAddress_4 rfl (lv_at hl 0 rfl) ?_
    refine lv_sipush (v := nI 256) hx hb d_SS_isAddress_5 (by decide +kernel) ?_
    refine lv_icmp_ge (tgt := 15) hx hb d_SS_isAddress_8 (by decide) (fun c2 => ?_) (fun c2 => ?_)
    · have c2 := (nz_le (by omega)).mp c2
      refine lv_iconst (v := nI 0) hx hb d_SS_isAddress_15 (by decide +kernel) ?_
      exact ro_retz hx hb hr hlocks d_SS_isAddress_16 (by decide +kernel) (bI_f (by omega))
    · have c2 := mt (nz_le (by omega)).mpr c2
      refine lv_iconst (v := nI 1) hx hb d_SS_isAddress_11 (by decide +kernel) ?_
      refine lv_goto (tgt := 16) hx hb d_SS_isAddress_12 (by decide) ?_
      exact ro_retz hx hb hr hlocks d_SS_isAddress_16 (by decide +kernel) (bI_t (by omega))
set_option maxHeartbeats 4000000 in
set_option maxRecDepth 100000 in
theorem c_SS_isAddressN (l : Launch) (D : va_G) (k : Nat → ClassId) (x : Nat) (hx9 : x < 2 ^ 31) : ro_i l y_SS_isAddress b_SS_isAddress 1 (some .boolean) { frames := 0, cells := 0, slots := 0, locals := 0 } D (kT k) [] [.int (nI x)] (bI (x ≤ 255)) := by
  refine ro_headi (by decide) (Nat.le_of_ble_eq_true rfl) ?_
  intro p e s m below meth c ls hx hb hr hlocks hml hown hts hP hK hl
  have hown : s.vm.findClass "SlotScreen" = some m.cls := hown
  have hl : lv_has ls 1 [(0, .int (nI x))] := hl
  refine lv_iload_n hx hb d_SS_isAddress_0 rfl (lv_at hl 0 rfl) ?_
  refine lv_if_lt (tgt := 15) hx hb d_SS_isAddress_1 (by decide) (fun c1 => ?_) (fun c1 => ?_)
  · have c1 := (n_lt0 (by omega)).mp c1
    refine lv_iconst (v := nI 0) hx hb d_SS_isAddress_15 (by decide +kernel) ?_
    exact ro_retz hx hb hr hlocks d_SS_isAddress_16 (by decide +kernel) (bI_f (by omega))
  · have c1 := mt (n_lt0 (by omega)).mpr c1
    refine lv_iload_n hx hb d_SS_isAddress_4 rfl (lv_at hl 0 rfl) ?_
    refine lv_sipush (v := nI 256) hx hb d_SS_isAddress_5 (by decide +kernel) ?_
    refine lv_icmp_ge (tgt := 15) hx hb d_SS_isAddress_8 (by decide) (fun c2 => ?_) (fun c2 => ?_)
    · have c2 := (nI_leI (by omega) (by omega)).mp c2
      refine lv_iconst (v := nI 0) hx hb d_SS_isAddress_15 (by decide +kernel) ?_
      exact ro_retz hx hb hr hlocks d_SS_isAddress_16 (by decide +kernel) (bI_f (by omega))
    · have c2 := mt (nI_leI (by omega) (by omega)).mpr c2
      refine lv_iconst (v := nI 1) hx hb d_SS_isAddress_11 (by decide +kernel) ?_
      refine lv_goto (tgt := 16) hx hb d_SS_isAddress_12 (by decide) ?_
      exact ro_retz hx hb hr hlocks d_SS_isAddress_16 (by decide +kernel) (bI_t (by omega))
set_option maxHeartbeats 4000000 in
set_option maxRecDepth 100000 in
theorem c_SS_isByte (l : Launch) (D : va_G) (k : Nat → ClassId) (x : Int32) : ro_i l y_SS_isByte b_SS_isByte 1 (some .boolean) { frames := 0, cells := 0, slots := 0, locals := 0 } D (kT k) [] [.int x] (bI (0 ≤ x.toInt ∧ x.toInt ≤ 255)) := by
  refine ro_headi (by decide) (Nat.le_of_ble_eq_true rfl) ?_
  intro p e s m below meth c ls hx hb hr hlocks hml hown hts hP hK hl
  have hown : s.vm.findClass "SlotScreen" = some m.cls := hown
  have hl : lv_has ls 1 [(0, .int x)] := hl
  refine lv_iload_n hx hb d_SS_isByte_0 rfl (lv_at hl 0 rfl) ?_
  refine lv_if_lt (tgt := 15) hx hb d_SS_isByte_1 (by decide) (fun c1 => ?_) (fun c1 => ?_)
  · have c1 := (z_lt0).mp c1
    refine lv_iconst (v := nI 0) hx hb d_SS_isByte_15 (by decide +kernel) ?_
    exact ro_retz hx hb hr hlocks d_SS_isByte_16 (by decide +kernel) (bI_f (by omega))
  · have c1 := mt (z_lt0).mpr c1
    refine lv_iload_n hx hb d_SS_isByte_4 rfl (lv_at hl 0 rfl) ?_
    refine lv_sipush (v := nI 255) hx hb d_SS_isByte_5 (by decide +kernel) ?_
    refine lv_icmp_gt (tgt := 15) hx hb d_SS_isByte_8 (by decide) (fun c2 => ?_) (fun c2 => ?_)
    · have c2 := (nz_lt (by omega)).mp c2
      refine lv_iconst (v := nI 0) hx hb d_SS_isByte_15 (by decide +kernel) ?_
      exact ro_retz hx hb hr hlocks d_SS_isByte_16 (by decide +kernel) (bI_f (by omega))
    · have c2 := mt (nz_lt (by omega)).mpr c2
      refine lv_iconst (v := nI 1) hx hb d_SS_isByte_11 (by decide +kernel) ?_
      refine lv_goto (tgt := 16) hx hb d_SS_isByte_12 (by decide) ?_
      exact ro_retz hx hb hr hlocks d_SS_isByte_16 (by decide +kernel) (bI_t (by omega))
set_option maxHeartbeats 4000000 in
set_option maxRecDepth 100000 in
theorem c_SS_isByteN (l : Launch) (D : va_G) (k : Nat → ClassId) (x : Nat) (hx9 : x < 2 ^ 31) : ro_i l y_SS_isByte b_SS_isByte 1 (some .boolean) { frames := 0, cells := 0, slots := 0, locals := 0 } D (kT k) [] [.int (nI x)] (bI (x ≤ 255)) := by
  refine ro_headi (by decide) (Nat.le_of_ble_eq_true rfl) ?_
  intro p e s m below meth c ls hx hb hr hlocks hml hown hts hP hK hl
  have hown : s.vm.findClass "SlotScreen" = some m.cls := hown
  have hl : lv_has ls 1 [(0, .int (nI x))] := hl
  refine lv_iload_n hx hb d_SS_isByte_0 rfl (lv_at hl 0 rfl) ?_
  refine lv_if_lt (tgt := 15) hx hb d_SS_isByte_1 (by decide) (fun c1 => ?_) (fun c1 => ?_)
  · have c1 := (n_lt0 (by omega)).mp c1
    refine lv_iconst (v := nI 0) hx hb d_SS_isByte_15 (by decide +kernel) ?_
    exact ro_retz hx hb hr hlocks d_SS_isByte_16 (by decide +kernel) (bI_f (by omega))
  · have c1 := mt (n_lt0 (by omega)).mpr c1
    refine lv_iload_n hx hb d_SS_isByte_4 rfl (lv_at hl 0 rfl) ?_
    refine lv_sipush (v := nI 255) hx hb d_SS_isByte_5 (by decide +kernel) ?_
    refine lv_icmp_gt (tgt := 15) hx hb d_SS_isByte_8 (by decide) (fun c2 => ?_) (fun c2 => ?_)
    · have c2 := (nI_ltI (by omega) (by omega)).mp c2
      refine lv_iconst (v := nI 0) hx hb d_SS_isByte_15 (by decide +kernel) ?_
      exact ro_retz hx hb hr hlocks d_SS_isByte_16 (by decide +kernel) (bI_f (by omega))
    · have c2 := mt (nI_ltI (by omega) (by omega)).mpr c2
      refine lv_iconst (v := nI 1) hx hb d_SS_isByte_11 (by decide +kernel) ?_
      refine lv_goto (tgt := 16) hx hb d_SS_isByte_12 (by decide) ?_
      exact ro_retz hx hb hr hlocks d_SS_isByte_16 (by decide +kernel) (bI_t (by omega))
set_option maxHeartbeats 4000000 in
set_option maxRecDepth 100000 in
theorem c_SS_isDevice (l : Launch) (D : va_G) (k : Nat → ClassId) (x b : Int32) : ro_i l y_SS_isDevice b_SS_isDevice 2 (some .boolean) { frames := 0, cells := 0, slots := 0, locals := 0 } D (kT k) [] [.int x, .int b] (bI (1 ≤ x.toInt ∧ x.toInt ≤ 4 ∧ (x.toInt = 3 → 1 ≤ b.toInt ∧ b.toInt ≤ 8))) := by
  refine ro_headi (by decide) (Nat.le_of_ble_eq_true rfl) ?_
  intro p e s m below meth c ls hx hb hr hlocks hml hown hts hP hK hl
  have hown : s.vm.findClass "SlotScreen" = some m.cls := hown
  have hl : lv_has ls 2 [(0, .int x), (1, .int b)] := hl
  refine lv_iload_n hx hb d_SS_isDevice_0 rfl (lv_at hl 0 rfl) ?_
  refine lv_iconst (v := nI 3) hx hb d_SS_isDevice_1 (by decide +kernel) ?_
  refine lv_icmp_ne (tgt := 22) hx hb d_SS_isDevice_2 (by decide) (fun c1 => ?_) (fun c1 => ?_)
  · have c1 := mt (zn_eq (by omega)).mpr c1
    refine lv_iload_n hx hb d_SS_isDevice_22 rfl (lv_at hl 0 rfl) ?_
    refine lv_iconst (v := nI 1) hx hb d_SS_isDevice_23 (by decide +kernel) ?_
    refine lv_icmp_eq (tgt := 37) hx hb d_SS_isDevice_24 (by decide) (fun c2 => ?_) (fun c2 => ?_)
    · have c2 := (zn_eq (by omega)).mp c2
      refine lv_iconst (v := nI 1) hx hb d_SS_isDevice_37 (by decide +kernel) ?_
      refine lv_goto (tgt := 42) hx hb d_SS_isDevice_38 (by decide) ?_
      exact ro_retz hx hb hr hlocks d_SS_isDevice_42 (by decide +kernel) (bI_t (by omega))
    · have c2 := mt (zn_eq (by omega)).mpr c2
      refine lv_iload_n hx hb d_SS_isDevice_27 rfl (lv_at hl 0 rfl) ?_
      refine lv_iconst (v := nI 2) hx hb d_SS_isDevice_28 (by decide +kernel) ?_
      refine lv_icmp_eq (tgt := 37) hx hb d_SS_isDevice_29 (by decide) (fun c3 => ?_) (fun c3 => ?_)
      · have c3 := (zn_eq (by omega)).mp c3
        refine lv_iconst (v := nI 1) hx hb d_SS_isDevice_37 (by decide +kernel) ?_
        refine lv_goto (tgt := 42) hx hb d_SS_isDevice_38 (by decide) ?_
        exact ro_retz hx hb hr hlocks d_SS_isDevice_42 (by decide +kernel) (bI_t (by omega))
      · have c3 := mt (zn_eq (by omega)).mpr c3
        refine lv_iload_n hx hb d_SS_isDevice_32 rfl (lv_at hl 0 rfl) ?_
        refine lv_iconst (v := nI 4) hx hb d_SS_isDevice_33 (by decide +kernel) ?_
        refine lv_icmp_ne (tgt := 41) hx hb d_SS_isDevice_34 (by decide) (fun c4 => ?_) (fun c4 => ?_)
        · have c4 := mt (zn_eq (by omega)).mpr c4
          refine lv_iconst (v := nI 0) hx hb d_SS_isDevice_41 (by decide +kernel) ?_
          exact ro_retz hx hb hr hlocks d_SS_isDevice_42 (by decide +kernel) (bI_f (by omega))
        · have c4 := (zn_eq (by omega)).mp c4
          refine lv_iconst (v := nI 1) hx hb d_SS_isDevice_37 (by decide +kernel) ?_
          refine lv_goto (tgt := 42) hx hb d_SS_isDevice_38 (by decide) ?_
          exact ro_retz hx hb hr hlocks d_SS_isDevice_42 (by decide +kernel) (bI_t (by omega))
  · have c1 := (zn_eq (by omega)).mp c1
    refine lv_iload_n hx hb d_SS_isDevice_5 rfl (lv_at hl 1 rfl) ?_
    refine lv_iconst (v := nI 1) hx hb d_SS_isDevice_6 (by decide +kernel) ?_
    refine lv_icmp_lt (tgt := 20) hx hb d_SS_isDevice_7 (by decide) (fun c5 => ?_) (fun c5 => ?_)
    · have c5 := (zn_lt (by omega)).mp c5
      refine lv_iconst (v := nI 0) hx hb d_SS_isDevice_20 (by decide +kernel) ?_
      exact ro_retz hx hb hr hlocks d_SS_isDevice_21 (by decide +kernel) (bI_f (by omega))
    · have c5 := mt (zn_lt (by omega)).mpr c5
      refine lv_iload_n hx hb d_SS_isDevice_10 rfl (lv_at hl 1 rfl) ?_
      refine lv_bipush (v := nI 8) hx hb d_SS_isDevice_11 (by decide +kernel) ?_
      refine lv_icmp_gt (tgt := 20) hx hb d_SS_isDevice_13 (by decide) (fun c6 => ?_) (fun c6 => ?_)
      · have c6 := (nz_lt (by omega)).mp c6
        refine lv_iconst (v := nI 0) hx hb d_SS_isDevice_20 (by decide +kernel) ?_
        exact ro_retz hx hb hr hlocks d_SS_isDevice_21 (by decide +kernel) (bI_f (by omega))
      · have c6 := mt (nz_lt (by omega)).mpr c6
        refine lv_iconst (v := nI 1) hx hb d_SS_isDevice_16 (by decide +kernel) ?_
        refine lv_goto (tgt := 21) hx hb d_SS_isDevice_17 (by decide) ?_
        exact ro_retz hx hb hr hlocks d_SS_isDevice_21 (by decide +kernel) (bI_t (by omega))
set_option maxHeartbeats 4000000 in
set_option maxRecDepth 100000 in
theorem c_SS_isDeviceN (l : Launch) (D : va_G) (k : Nat → ClassId) (x : Nat) (hx9 : x ≤ 4) (b : Int32) : ro_i l y_SS_isDevice b_SS_isDevice 2 (some .boolean) { frames := 0, cells := 0, slots := 0, locals := 0 } D (kT k) [] [.int (nI x), .int b] (bI (1 ≤ x ∧ (x = 3 → 1 ≤ b.toInt ∧ b.toInt ≤ 8))) := by
  refine ro_headi (by decide) (Nat.le_of_ble_eq_true rfl) ?_
  intro p e s m below meth c ls hx hb hr hlocks hml hown hts hP hK hl
  have hown : s.vm.findClass "SlotScreen" = some m.cls := hown
  have hl : lv_has ls 2 [(0, .int (nI x)), (1, .int b)] := hl
  refine lv_iload_n hx hb d_SS_isDevice_0 rfl (lv_at hl 0 rfl) ?_
  refine lv_iconst (v := nI 3) hx hb d_SS_isDevice_1 (by decide +kernel) ?_
  refine lv_icmp_ne (tgt := 22) hx hb d_SS_isDevice_2 (by decide) (fun c1 => ?_) (fun c1 => ?_)
  · have c1 := mt (nI_eq (by omega) (by omega)).mpr c1
    refine lv_iload_n hx hb d_SS_isDevice_22 rfl (lv_at hl 0 rfl) ?_
    refine lv_iconst (v := nI 1) hx hb d_SS_isDevice_23 (by decide +kernel) ?_
    refine lv_icmp_eq (tgt := 37) hx hb d_SS_isDevice_24 (by decide) (fun c2 => ?_) (fun c2 => ?_)
    · have c2 := (nI_eq (by omega) (by omega)).mp c2
      refine lv_iconst (v := nI 1) hx hb d_SS_isDevice_37 (by decide +kernel) ?_
      refine lv_goto (tgt := 42) hx hb d_SS_isDevice_38 (by decide) ?_
      exact ro_retz hx hb hr hlocks d_SS_isDevice_42 (by decide +kernel) (bI_t (by omega))
    · have c2 := mt (nI_eq (by omega) (by omega)).mpr c2
      refine lv_iload_n hx hb d_SS_isDevice_27 rfl (lv_at hl 0 rfl) ?_
      refine lv_iconst (v := nI 2) hx hb d_SS_isDevice_28 (by decide +kernel) ?_
      refine lv_icmp_eq (tgt := 37) hx hb d_SS_isDevice_29 (by decide) (fun c3 => ?_) (fun c3 => ?_)
      · have c3 := (nI_eq (by omega) (by omega)).mp c3
        refine lv_iconst (v := nI 1) hx hb d_SS_isDevice_37 (by decide +kernel) ?_
        refine lv_goto (tgt := 42) hx hb d_SS_isDevice_38 (by decide) ?_
        exact ro_retz hx hb hr hlocks d_SS_isDevice_42 (by decide +kernel) (bI_t (by omega))
      · have c3 := mt (nI_eq (by omega) (by omega)).mpr c3
        refine lv_iload_n hx hb d_SS_isDevice_32 rfl (lv_at hl 0 rfl) ?_
        refine lv_iconst (v := nI 4) hx hb d_SS_isDevice_33 (by decide +kernel) ?_
        refine lv_icmp_ne (tgt := 41) hx hb d_SS_isDevice_34 (by decide) (fun c4 => ?_) (fun c4 => ?_)
        · have c4 := mt (nI_eq (by omega) (by omega)).mpr c4
          refine lv_iconst (v := nI 0) hx hb d_SS_isDevice_41 (by decide +kernel) ?_
          exact ro_retz hx hb hr hlocks d_SS_isDevice_42 (by decide +kernel) (bI_f (by omega))
        · have c4 := (nI_eq (by omega) (by omega)).mp c4
          refine lv_iconst (v := nI 1) hx hb d_SS_isDevice_37 (by decide +kernel) ?_
          refine lv_goto (tgt := 42) hx hb d_SS_isDevice_38 (by decide) ?_
          exact ro_retz hx hb hr hlocks d_SS_isDevice_42 (by decide +kernel) (bI_t (by omega))
  · have c1 := (nI_eq (by omega) (by omega)).mp c1
    refine lv_iload_n hx hb d_SS_isDevice_5 rfl (lv_at hl 1 rfl) ?_
    refine lv_iconst (v := nI 1) hx hb d_SS_isDevice_6 (by decide +kernel) ?_
    refine lv_icmp_lt (tgt := 20) hx hb d_SS_isDevice_7 (by decide) (fun c5 => ?_) (fun c5 => ?_)
    · have c5 := (zn_lt (by omega)).mp c5
      refine lv_iconst (v := nI 0) hx hb d_SS_isDevice_20 (by decide +kernel) ?_
      exact ro_retz hx hb hr hlocks d_SS_isDevice_21 (by decide +kernel) (bI_f (by omega))
    · have c5 := mt (zn_lt (by omega)).mpr c5
      refine lv_iload_n hx hb d_SS_isDevice_10 rfl (lv_at hl 1 rfl) ?_
      refine lv_bipush (v := nI 8) hx hb d_SS_isDevice_11 (by decide +kernel) ?_
      refine lv_icmp_gt (tgt := 20) hx hb d_SS_isDevice_13 (by decide) (fun c6 => ?_) (fun c6 => ?_)
      · have c6 := (nz_lt (by omega)).mp c6
        refine lv_iconst (v := nI 0) hx hb d_SS_isDevice_20 (by decide +kernel) ?_
        exact ro_retz hx hb hr hlocks d_SS_isDevice_21 (by decide +kernel) (bI_f (by omega))
      · have c6 := mt (nz_lt (by omega)).mpr c6
        refine lv_iconst (v := nI 1) hx hb d_SS_isDevice_16 (by decide +kernel) ?_
        refine lv_goto (tgt := 21) hx hb d_SS_isDevice_17 (by decide) ?_
        exact ro_retz hx hb hr hlocks d_SS_isDevice_21 (by decide +kernel) (bI_t (by omega))
set_option maxHeartbeats 4000000 in
set_option maxRecDepth 100000 in
theorem c_SS_isDeviceM (l : Launch) (D : va_G) (k : Nat → ClassId) (x : Nat) (hx9 : x ≤ 4) (b : Nat) (hb9 : b < 2 ^ 31) : ro_i l y_SS_isDevice b_SS_isDevice 2 (some .boolean) { frames := 0, cells := 0, slots := 0, locals := 0 } D (kT k) [] [.int (nI x), .int (nI b)] (bI (1 ≤ x ∧ (x = 3 → 1 ≤ b ∧ b ≤ 8))) := by
  refine ro_headi (by decide) (Nat.le_of_ble_eq_true rfl) ?_
  intro p e s m below meth c ls hx hb hr hlocks hml hown hts hP hK hl
  have hown : s.vm.findClass "SlotScreen" = some m.cls := hown
  have hl : lv_has ls 2 [(0, .int (nI x)), (1, .int (nI b))] := hl
  refine lv_iload_n hx hb d_SS_isDevice_0 rfl (lv_at hl 0 rfl) ?_
  refine lv_iconst (v := nI 3) hx hb d_SS_isDevice_1 (by decide +kernel) ?_
  refine lv_icmp_ne (tgt := 22) hx hb d_SS_isDevice_2 (by decide) (fun c1 => ?_) (fun c1 => ?_)
  · have c1 := mt (nI_eq (by omega) (by omega)).mpr c1
    refine lv_iload_n hx hb d_SS_isDevice_22 rfl (lv_at hl 0 rfl) ?_
    refine lv_iconst (v := nI 1) hx hb d_SS_isDevice_23 (by decide +kernel) ?_
    refine lv_icmp_eq (tgt := 37) hx hb d_SS_isDevice_24 (by decide) (fun c2 => ?_) (fun c2 => ?_)
    · have c2 := (nI_eq (by omega) (by omega)).mp c2
      refine lv_iconst (v := nI 1) hx hb d_SS_isDevice_37 (by decide +kernel) ?_
      refine lv_goto (tgt := 42) hx hb d_SS_isDevice_38 (by decide) ?_
      exact ro_retz hx hb hr hlocks d_SS_isDevice_42 (by decide +kernel) (bI_t (by omega))
    · have c2 := mt (nI_eq (by omega) (by omega)).mpr c2
      refine lv_iload_n hx hb d_SS_isDevice_27 rfl (lv_at hl 0 rfl) ?_
      refine lv_iconst (v := nI 2) hx hb d_SS_isDevice_28 (by decide +kernel) ?_
      refine lv_icmp_eq (tgt := 37) hx hb d_SS_isDevice_29 (by decide) (fun c3 => ?_) (fun c3 => ?_)
      · have c3 := (nI_eq (by omega) (by omega)).mp c3
        refine lv_iconst (v := nI 1) hx hb d_SS_isDevice_37 (by decide +kernel) ?_
        refine lv_goto (tgt := 42) hx hb d_SS_isDevice_38 (by decide) ?_
        exact ro_retz hx hb hr hlocks d_SS_isDevice_42 (by decide +kernel) (bI_t (by omega))
      · have c3 := mt (nI_eq (by omega) (by omega)).mpr c3
        refine lv_iload_n hx hb d_SS_isDevice_32 rfl (lv_at hl 0 rfl) ?_
        refine lv_iconst (v := nI 4) hx hb d_SS_isDevice_33 (by decide +kernel) ?_
        refine lv_icmp_ne (tgt := 41) hx hb d_SS_isDevice_34 (by decide) (fun c4 => ?_) (fun c4 => ?_)
        · have c4 := mt (nI_eq (by omega) (by omega)).mpr c4
          refine lv_iconst (v := nI 0) hx hb d_SS_isDevice_41 (by decide +kernel) ?_
          exact ro_retz hx hb hr hlocks d_SS_isDevice_42 (by decide +kernel) (bI_f (by omega))
        · have c4 := (nI_eq (by omega) (by omega)).mp c4
          refine lv_iconst (v := nI 1) hx hb d_SS_isDevice_37 (by decide +kernel) ?_
          refine lv_goto (tgt := 42) hx hb d_SS_isDevice_38 (by decide) ?_
          exact ro_retz hx hb hr hlocks d_SS_isDevice_42 (by decide +kernel) (bI_t (by omega))
  · have c1 := (nI_eq (by omega) (by omega)).mp c1
    refine lv_iload_n hx hb d_SS_isDevice_5 rfl (lv_at hl 1 rfl) ?_
    refine lv_iconst (v := nI 1) hx hb d_SS_isDevice_6 (by decide +kernel) ?_
    refine lv_icmp_lt (tgt := 20) hx hb d_SS_isDevice_7 (by decide) (fun c5 => ?_) (fun c5 => ?_)
    · have c5 := (nI_ltI (by omega) (by omega)).mp c5
      refine lv_iconst (v := nI 0) hx hb d_SS_isDevice_20 (by decide +kernel) ?_
      exact ro_retz hx hb hr hlocks d_SS_isDevice_21 (by decide +kernel) (bI_f (by omega))
    · have c5 := mt (nI_ltI (by omega) (by omega)).mpr c5
      refine lv_iload_n hx hb d_SS_isDevice_10 rfl (lv_at hl 1 rfl) ?_
      refine lv_bipush (v := nI 8) hx hb d_SS_isDevice_11 (by decide +kernel) ?_
      refine lv_icmp_gt (tgt := 20) hx hb d_SS_isDevice_13 (by decide) (fun c6 => ?_) (fun c6 => ?_)
      · have c6 := (nI_ltI (by omega) (by omega)).mp c6
        refine lv_iconst (v := nI 0) hx hb d_SS_isDevice_20 (by decide +kernel) ?_
        exact ro_retz hx hb hr hlocks d_SS_isDevice_21 (by decide +kernel) (bI_f (by omega))
      · have c6 := mt (nI_ltI (by omega) (by omega)).mpr c6
        refine lv_iconst (v := nI 1) hx hb d_SS_isDevice_16 (by decide +kernel) ?_
        refine lv_goto (tgt := 21) hx hb d_SS_isDevice_17 (by decide) ?_
        exact ro_retz hx hb hr hlocks d_SS_isDevice_21 (by decide +kernel) (bI_t (by omega))
set_option maxHeartbeats 4000000 in
set_option maxRecDepth 100000 in
theorem c_RA_byteAt256 (l : Launch) (D : va_G) (k : Nat → ClassId) (ao bo : Nat) (F : Nat → Nat) (a : Nat) (ha : a < 256) : ro_i l y_RA_byteAt b_RA_byteAt 2 (some .int) { frames := 0, cells := 0, slots := 0, locals := 0 } D (kT k) (raW ao bo k 256 255 F) [.ref ao, .int (nI a)] (nI (F (a))) := by
  refine ro_headi (by decide) (Nat.le_of_ble_eq_true rfl) ?_
  intro p e s m below meth c ls hx hb hr hlocks hml hown hts hP hK hl
  have hown : s.vm.findClass "SlotScreen$Ram" = some m.cls := hown
  have hl : lv_has ls 2 [(0, .ref ao), (1, .int (nI a))] := hl
  refine lv_aload_n hx hb d_RA_byteAt_0 rfl (lv_at hl 0 rfl) ?_
  refine va_get (D := D) (ci := 5) (v := .ref bo) (C := R_RA) (T := T_RA) (N := 2) hx hb hts in_RA hown hK hP 0 rfl rfl 0 (by decide) (hts _ w_410) (fun _ h9 => h9) rfl d_RA_byteAt_1 ?_
  refine lv_iload_n hx hb d_RA_byteAt_4 rfl (lv_at hl 1 rfl) ?_
  refine lv_aload_n hx hb d_RA_byteAt_5 rfl (lv_at hl 0 rfl) ?_
  refine va_get (D := D) (ci := 5) (v := .int (nI 255)) (C := R_RA) (T := T_RA) (N := 2) hx hb hts in_RA hown hK hP 0 rfl rfl 1 (by decide) (hts _ w_411) (fun _ h9 => h9) rfl d_RA_byteAt_6 ?_
  refine lv_iand hx hb d_RA_byteAt_9 ?_
  refine ss_rt (y := nI a) (by rw [pk_andN (by omega) 8 (by decide +kernel), Nat.mod_eq_of_lt (by omega)]) ?_
  refine va_iald hx hb hK hP 1 0 rfl rfl (vp_in_nI (by omega) (by omega)) d_RA_byteAt_10 ?_
  refine ss_rt (y := nI (F a)) (congrArg (fun z => nI (F z)) (nI_clamp (by omega))) ?_
  exact ro_reti hx hb hr hlocks d_RA_byteAt_11 (rfl)
set_option maxHeartbeats 4000000 in
set_option maxRecDepth 100000 in
theorem c_RA_store256 (l : Launch) (D : va_G) (k : Nat → ClassId) (ao bo : Nat) (F : Nat → Nat) (a v : Nat) (ha : a < 256) (hv : v < 256) : rw_v l y_RA_store b_RA_store 3 none { frames := 0, cells := 0, slots := 0, locals := 0 } D (kT k) (raW ao bo k 256 255 F) [.ref ao, .int (nI a), .int (nI v)] (fun (_ : Unit) => True) (fun (_ : Unit) => (raW ao bo k 256 255 (ss_up F (a) v))) := by
  refine rw_headv (by decide) (Nat.le_of_ble_eq_true rfl) ?_
  intro p e s m below meth c ls A hx hb hr hlocks hml hown hts hK hA hP hD hS hl
  have hown : s.vm.findClass "SlotScreen$Ram" = some m.cls := hown
  have hl : lv_has ls 3 [(0, .ref ao), (1, .int (nI a)), (2, .int (nI v))] := hl
  refine lv_aload_n hx hb d_RA_store_0 rfl (lv_at hl 0 rfl) ?_
  refine va_get (D := D) (ci := 5) (v := .ref bo) (C := R_RA) (T := T_RA) (N := 2) hx hb hts in_RA hown hK hP 0 rfl rfl 0 (by decide) (hts _ w_410) (fun _ h9 => h9) rfl d_RA_store_1 ?_
  refine lv_iload_n hx hb d_RA_store_4 rfl (lv_at hl 1 rfl) ?_
  refine lv_aload_n hx hb d_RA_store_5 rfl (lv_at hl 0 rfl) ?_
  refine va_get (D := D) (ci := 5) (v := .int (nI 255)) (C := R_RA) (T := T_RA) (N := 2) hx hb hts in_RA hown hK hP 0 rfl rfl 1 (by decide) (hts _ w_411) (fun _ h9 => h9) rfl d_RA_store_6 ?_
  refine lv_iand hx hb d_RA_store_9 ?_
  refine ss_rt (y := nI a) (by rw [pk_andN (by omega) 8 (by decide +kernel), Nat.mod_eq_of_lt (by omega)]) ?_
  refine lv_iload_n hx hb d_RA_store_10 rfl (lv_at hl 2 rfl) ?_
  refine va_iast hx hb hK hP hD hS 1 0 rfl rfl (vp_in_nI (by omega) (by omega)) d_RA_store_11 (fun H locs hP hD hS => ?_)
  rw [ss_upI F (k := a) (v := v) (by omega)] at hP hD
  have hP : va_P D vwCl (raW ao bo k 256 255 (ss_up F a v)) _ := hP
  have hD : va_D A (raW ao bo k 256 255 (ss_up F a v)) := hD
  exact rw_retv hx hb hr hlocks d_RA_store_12 hS () (trivial) (by rw [show (ss_up F (a) v) = (ss_up F a v) from by first | rfl | omega]; exact hP)
set_option maxHeartbeats 4000000 in
set_option maxRecDepth 100000 in
theorem c_DV_fix256 (l : Launch) (D : va_G) (k : Nat → ClassId) (ao bo : Nat) (F : Nat → Nat) (x y : Int32) : ro_i l y_DV_fix b_DV_fix 3 (some .boolean) { frames := 0, cells := 0, slots := 0, locals := 0 } D (kT k) (raW ao bo k 256 255 F) [.ref ao, .int x, .int y] (nI 0) := by
  refine ro_headi (by decide) (Nat.le_of_ble_eq_true rfl) ?_
  intro p e s m below meth c ls hx hb hr hlocks hml hown hts hP hK hl
  have hown : s.vm.findClass "SlotScreen$Device" = some m.cls := hown
  have hl : lv_has ls 3 [(0, .ref ao), (1, .int x), (2, .int y)] := hl
  refine lv_iconst (v := nI 0) hx hb d_DV_fix_0 (by decide +kernel) ?_
  exact ro_retz hx hb hr hlocks d_DV_fix_1 (by decide +kernel) (rfl)
set_option maxHeartbeats 4000000 in
set_option maxRecDepth 100000 in
theorem c_RA_byteAt64 (l : Launch) (D : va_G) (k : Nat → ClassId) (ao bo : Nat) (F : Nat → Nat) (a : Nat) (ha : a < 256) : ro_i l y_RA_byteAt b_RA_byteAt 2 (some .int) { frames := 0, cells := 0, slots := 0, locals := 0 } D (kT k) (raW ao bo k 64 63 F) [.ref ao, .int (nI a)] (nI (F (a % 64))) := by
  refine ro_headi (by decide) (Nat.le_of_ble_eq_true rfl) ?_
  intro p e s m below meth c ls hx hb hr hlocks hml hown hts hP hK hl
  have hown : s.vm.findClass "SlotScreen$Ram" = some m.cls := hown
  have hl : lv_has ls 2 [(0, .ref ao), (1, .int (nI a))] := hl
  refine lv_aload_n hx hb d_RA_byteAt_0 rfl (lv_at hl 0 rfl) ?_
  refine va_get (D := D) (ci := 5) (v := .ref bo) (C := R_RA) (T := T_RA) (N := 2) hx hb hts in_RA hown hK hP 0 rfl rfl 0 (by decide) (hts _ w_410) (fun _ h9 => h9) rfl d_RA_byteAt_1 ?_
  refine lv_iload_n hx hb d_RA_byteAt_4 rfl (lv_at hl 1 rfl) ?_
  refine lv_aload_n hx hb d_RA_byteAt_5 rfl (lv_at hl 0 rfl) ?_
  refine va_get (D := D) (ci := 5) (v := .int (nI 63)) (C := R_RA) (T := T_RA) (N := 2) hx hb hts in_RA hown hK hP 0 rfl rfl 1 (by decide) (hts _ w_411) (fun _ h9 => h9) rfl d_RA_byteAt_6 ?_
  refine lv_iand hx hb d_RA_byteAt_9 ?_
  refine ss_rt (y := nI (a % 64)) (pk_andN (by omega) 6 (by decide +kernel)) ?_
  refine va_iald hx hb hK hP 1 0 rfl rfl (vp_in_nI (by omega) (by omega)) d_RA_byteAt_10 ?_
  refine ss_rt (y := nI (F (a % 64))) (congrArg (fun z => nI (F z)) (nI_clamp (by omega))) ?_
  exact ro_reti hx hb hr hlocks d_RA_byteAt_11 (rfl)
set_option maxHeartbeats 4000000 in
set_option maxRecDepth 100000 in
theorem c_RA_store64 (l : Launch) (D : va_G) (k : Nat → ClassId) (ao bo : Nat) (F : Nat → Nat) (a v : Nat) (ha : a < 256) (hv : v < 256) : rw_v l y_RA_store b_RA_store 3 none { frames := 0, cells := 0, slots := 0, locals := 0 } D (kT k) (raW ao bo k 64 63 F) [.ref ao, .int (nI a), .int (nI v)] (fun (_ : Unit) => True) (fun (_ : Unit) => (raW ao bo k 64 63 (ss_up F (a % 64) v))) := by
  refine rw_headv (by decide) (Nat.le_of_ble_eq_true rfl) ?_
  intro p e s m below meth c ls A hx hb hr hlocks hml hown hts hK hA hP hD hS hl
  have hown : s.vm.findClass "SlotScreen$Ram" = some m.cls := hown
  have hl : lv_has ls 3 [(0, .ref ao), (1, .int (nI a)), (2, .int (nI v))] := hl
  refine lv_aload_n hx hb d_RA_store_0 rfl (lv_at hl 0 rfl) ?_
  refine va_get (D := D) (ci := 5) (v := .ref bo) (C := R_RA) (T := T_RA) (N := 2) hx hb hts in_RA hown hK hP 0 rfl rfl 0 (by decide) (hts _ w_410) (fun _ h9 => h9) rfl d_RA_store_1 ?_
  refine lv_iload_n hx hb d_RA_store_4 rfl (lv_at hl 1 rfl) ?_
  refine lv_aload_n hx hb d_RA_store_5 rfl (lv_at hl 0 rfl) ?_
  refine va_get (D := D) (ci := 5) (v := .int (nI 63)) (C := R_RA) (T := T_RA) (N := 2) hx hb hts in_RA hown hK hP 0 rfl rfl 1 (by decide) (hts _ w_411) (fun _ h9 => h9) rfl d_RA_store_6 ?_
  refine lv_iand hx hb d_RA_store_9 ?_
  refine ss_rt (y := nI (a % 64)) (pk_andN (by omega) 6 (by decide +kernel)) ?_
  refine lv_iload_n hx hb d_RA_store_10 rfl (lv_at hl 2 rfl) ?_
  refine va_iast hx hb hK hP hD hS 1 0 rfl rfl (vp_in_nI (by omega) (by omega)) d_RA_store_11 (fun H locs hP hD hS => ?_)
  rw [ss_upI F (k := (a % 64)) (v := v) (by omega)] at hP hD
  have hP : va_P D vwCl (raW ao bo k 64 63 (ss_up F (a % 64) v)) _ := hP
  have hD : va_D A (raW ao bo k 64 63 (ss_up F (a % 64) v)) := hD
  exact rw_retv hx hb hr hlocks d_RA_store_12 hS () (trivial) hP
set_option maxHeartbeats 4000000 in
set_option maxRecDepth 100000 in
theorem c_DV_fix64 (l : Launch) (D : va_G) (k : Nat → ClassId) (ao bo : Nat) (F : Nat → Nat) (x y : Int32) : ro_i l y_DV_fix b_DV_fix 3 (some .boolean) { frames := 0, cells := 0, slots := 0, locals := 0 } D (kT k) (raW ao bo k 64 63 F) [.ref ao, .int x, .int y] (nI 0) := by
  refine ro_headi (by decide) (Nat.le_of_ble_eq_true rfl) ?_
  intro p e s m below meth c ls hx hb hr hlocks hml hown hts hP hK hl
  have hown : s.vm.findClass "SlotScreen$Device" = some m.cls := hown
  have hl : lv_has ls 3 [(0, .ref ao), (1, .int x), (2, .int y)] := hl
  refine lv_iconst (v := nI 0) hx hb d_DV_fix_0 (by decide +kernel) ?_
  exact ro_retz hx hb hr hlocks d_DV_fix_1 (by decide +kernel) (rfl)
set_option maxHeartbeats 4000000 in
set_option maxRecDepth 100000 in
theorem c_RO_byteAt (l : Launch) (D : va_G) (k : Nat → ClassId) (ao bo : Nat) (F : Nat → Nat) (a : Nat) (ha : a < 256) : ro_i l y_RO_byteAt b_RO_byteAt 2 (some .int) { frames := 0, cells := 0, slots := 0, locals := 0 } D (kT k) (roW ao bo k F) [.ref ao, .int (nI a)] (nI (F a)) := by
  refine ro_headi (by decide) (Nat.le_of_ble_eq_true rfl) ?_
  intro p e s m below meth c ls hx hb hr hlocks hml hown hts hP hK hl
  have hown : s.vm.findClass "SlotScreen$Rom" = some m.cls := hown
  have hl : lv_has ls 2 [(0, .ref ao), (1, .int (nI a))] := hl
  refine lv_aload_n hx hb d_RO_byteAt_0 rfl (lv_at hl 0 rfl) ?_
  refine va_get (D := D) (ci := 6) (v := .ref bo) (C := R_RO) (T := T_RO) (N := 1) hx hb hts in_RO hown hK hP 0 rfl rfl 0 (by decide) (hts _ w_423) (fun _ h9 => h9) rfl d_RO_byteAt_1 ?_
  refine lv_iload_n hx hb d_RO_byteAt_4 rfl (lv_at hl 1 rfl) ?_
  refine lv_sipush (v := nI 255) hx hb d_RO_byteAt_5 (by decide +kernel) ?_
  refine lv_iand hx hb d_RO_byteAt_8 ?_
  refine ss_rt (y := nI a) (by rw [pk_andN (by omega) 8 (by decide +kernel), Nat.mod_eq_of_lt (by omega)]) ?_
  refine va_iald hx hb hK hP 1 0 rfl rfl (vp_in_nI (by omega) (by omega)) d_RO_byteAt_9 ?_
  refine ss_rt (y := nI (F a)) (congrArg (fun z => nI (F z)) (nI_clamp (by omega))) ?_
  exact ro_reti hx hb hr hlocks d_RO_byteAt_10 (rfl)
set_option maxHeartbeats 4000000 in
set_option maxRecDepth 100000 in
theorem c_RO_store (l : Launch) (D : va_G) (k : Nat → ClassId) (ao bo : Nat) (F : Nat → Nat) (x y : Int32) : rw_v l y_RO_store b_RO_store 3 none { frames := 0, cells := 0, slots := 0, locals := 0 } D (kT k) (roW ao bo k F) [.ref ao, .int x, .int y] (fun (_ : Unit) => True) (fun (_ : Unit) => (roW ao bo k F)) := by
  refine rw_headv (by decide) (Nat.le_of_ble_eq_true rfl) ?_
  intro p e s m below meth c ls A hx hb hr hlocks hml hown hts hK hA hP hD hS hl
  have hown : s.vm.findClass "SlotScreen$Rom" = some m.cls := hown
  have hl : lv_has ls 3 [(0, .ref ao), (1, .int x), (2, .int y)] := hl
  exact rw_retv hx hb hr hlocks d_RO_store_0 hS () (trivial) hP
set_option maxHeartbeats 4000000 in
set_option maxRecDepth 100000 in
theorem c_BK_isInWindow (l : Launch) (D : va_G) (k : Nat → ClassId) (a : Nat) (ha : a < 256) : ro_i l y_BK_isInWindow b_BK_isInWindow 1 (some .boolean) { frames := 0, cells := 0, slots := 0, locals := 0 } D (kT k) [] [.int (nI a)] (bI (64 ≤ a ∧ a ≤ 191)) := by
  refine ro_headi (by decide) (Nat.le_of_ble_eq_true rfl) ?_
  intro p e s m below meth c ls hx hb hr hlocks hml hown hts hP hK hl
  have hown : s.vm.findClass "SlotScreen$Banks" = some m.cls := hown
  have hl : lv_has ls 1 [(0, .int (nI a))] := hl
  refine lv_iload_n hx hb d_BK_isInWindow_0 rfl (lv_at hl 0 rfl) ?_
  refine lv_bipush (v := nI 64) hx hb d_BK_isInWindow_1 (by decide +kernel) ?_
  refine lv_icmp_lt (tgt := 17) hx hb d_BK_isInWindow_3 (by decide) (fun c1 => ?_) (fun c1 => ?_)
  · have c1 := (nI_ltI (by omega) (by omega)).mp c1
    refine lv_iconst (v := nI 0) hx hb d_BK_isInWindow_17 (by decide +kernel) ?_
    exact ro_retz hx hb hr hlocks d_BK_isInWindow_18 (by decide +kernel) (bI_f (by omega))
  · have c1 := mt (nI_ltI (by omega) (by omega)).mpr c1
    refine lv_iload_n hx hb d_BK_isInWindow_6 rfl (lv_at hl 0 rfl) ?_
    refine lv_sipush (v := nI 192) hx hb d_BK_isInWindow_7 (by decide +kernel) ?_
    refine lv_icmp_ge (tgt := 17) hx hb d_BK_isInWindow_10 (by decide) (fun c2 => ?_) (fun c2 => ?_)
    · have c2 := (nI_leI (by omega) (by omega)).mp c2
      refine lv_iconst (v := nI 0) hx hb d_BK_isInWindow_17 (by decide +kernel) ?_
      exact ro_retz hx hb hr hlocks d_BK_isInWindow_18 (by decide +kernel) (bI_f (by omega))
    · have c2 := mt (nI_leI (by omega) (by omega)).mpr c2
      refine lv_iconst (v := nI 1) hx hb d_BK_isInWindow_13 (by decide +kernel) ?_
      refine lv_goto (tgt := 18) hx hb d_BK_isInWindow_14 (by decide) ?_
      exact ro_retz hx hb hr hlocks d_BK_isInWindow_18 (by decide +kernel) (bI_t (by omega))
set_option maxHeartbeats 4000000 in
set_option maxRecDepth 100000 in
theorem c_BK_windowOf (l : Launch) (D : va_G) (k : Nat → ClassId) (a : Nat) (ha : a < 256) (h1 : 64 ≤ a) : ro_i l y_BK_windowOf b_BK_windowOf 1 (some .int) { frames := 0, cells := 0, slots := 0, locals := 0 } D (kT k) [] [.int (nI a)] (nI ((a - 64) / 32)) := by
  refine ro_headi (by decide) (Nat.le_of_ble_eq_true rfl) ?_
  intro p e s m below meth c ls hx hb hr hlocks hml hown hts hP hK hl
  have hown : s.vm.findClass "SlotScreen$Banks" = some m.cls := hown
  have hl : lv_has ls 1 [(0, .int (nI a))] := hl
  refine lv_iload_n hx hb d_BK_windowOf_0 rfl (lv_at hl 0 rfl) ?_
  refine lv_bipush (v := nI 64) hx hb d_BK_windowOf_1 (by decide +kernel) ?_
  refine lv_isub hx hb d_BK_windowOf_3 ?_
  refine ss_rt (y := nI (a - 64)) (pk_sub (by omega)) ?_
  refine lv_bipush (v := nI 32) hx hb d_BK_windowOf_4 (by decide +kernel) ?_
  refine lv_idiv hx hb d_BK_windowOf_6 (by first | decide +kernel | exact nI_ne0 (by omega) (by omega)) ?_
  refine ss_rt (y := nI ((a - 64) / 32)) (pk_div (by omega) (by omega) (by omega)) ?_
  exact ro_reti hx hb hr hlocks d_BK_windowOf_7 (rfl)
set_option maxHeartbeats 4000000 in
set_option maxRecDepth 100000 in
theorem c_BK_byteAti (l : Launch) (D : va_G) (k : Nat → ClassId) (ao bo co : Nat) (nb : Nat) (F G : Nat → Nat) (hn1 : 1 ≤ nb) (hn2 : nb ≤ 8) (a : Nat) (ha : a < 256) (h1 : 64 ≤ a ∧ a ≤ 191) (hG : G ((a - 64) / 32) < nb) : ro_i l y_BK_byteAt b_BK_byteAt 2 (some .int) { frames := 1, cells := 0, slots := 0, locals := 20 } D (kT k) (bkW ao bo co k nb F G) [.ref ao, .int (nI a)] (nI (F (G ((a - 64) / 32) * 32 + a % 32))) := by
  refine ro_headi (by decide) (Nat.le_of_ble_eq_true rfl) ?_
  intro p e s m below meth c ls hx hb hr hlocks hml hown hts hP hK hl
  have hown : s.vm.findClass "SlotScreen$Banks" = some m.cls := hown
  have hl : lv_has ls 2 [(0, .ref ao), (1, .int (nI a))] := hl
  refine lv_iload_n hx hb d_BK_byteAt_0 rfl (lv_at hl 1 rfl) ?_
  refine kr_iS (As := [.int (nI a)]) (rest := []) ⟨hx, hb, hml, hown, hts⟩ (c_BK_isInWindow l D k a (by omega)) (va_cwS 1 hts (gS w_478 w_479 w_14 w_480) rfl rfl rfl (by decide +kernel) ⟨Nat.le_of_ble_eq_true rfl, Nat.le_of_ble_eq_true rfl⟩) hK va_nil rfl hl.1 rfl (Nat.le_of_ble_eq_true rfl) d_BK_byteAt_1 ⟨Nat.zero_le _, Nat.zero_le _⟩ ?_
  refine lv_if_ne (tgt := 11) hx hb d_BK_byteAt_4 (by decide) (fun c1 => ?_) (fun c1 => ?_)
  · have c1 := mt (bI_0).mpr c1
    have c1 := Classical.not_not.mp c1
    refine lv_aload_n hx hb d_BK_byteAt_11 rfl (lv_at hl 0 rfl) ?_
    refine va_get (D := D) (ci := 4) (v := .ref bo) (C := R_BK) (T := T_BK) (N := 3) hx hb hts in_BK hown hK hP 0 rfl rfl 1 (by decide) (hts _ w_434) (fun _ h9 => h9) rfl d_BK_byteAt_12 ?_
    refine lv_aload_n hx hb d_BK_byteAt_15 rfl (lv_at hl 0 rfl) ?_
    refine va_get (D := D) (ci := 4) (v := .ref co) (C := R_BK) (T := T_BK) (N := 3) hx hb hts in_BK hown hK hP 0 rfl rfl 2 (by decide) (hts _ w_435) (fun _ h9 => h9) rfl d_BK_byteAt_16 ?_
    refine lv_iload_n hx hb d_BK_byteAt_19 rfl (lv_at hl 1 rfl) ?_
    refine kr_iS (As := [.int (nI a)]) (rest := [.ref co, .ref bo]) ⟨hx, hb, hml, hown, hts⟩ (c_BK_windowOf l D k a (by omega) (by omega)) (va_cwS 1 hts (gS w_481 w_482 w_14 w_483) rfl rfl rfl (by decide +kernel) ⟨Nat.le_of_ble_eq_true rfl, Nat.le_of_ble_eq_true rfl⟩) hK va_nil rfl hl.1 rfl (Nat.le_of_ble_eq_true rfl) d_BK_byteAt_20 ⟨Nat.zero_le _, Nat.zero_le _⟩ ?_
    refine va_iald hx hb hK hP 1 0 rfl rfl (vp_in_nI (by omega) (by omega)) d_BK_byteAt_23 ?_
    refine ss_rt (y := nI (G ((a - 64) / 32))) (congrArg (fun z => nI (G z)) (nI_clamp (by omega))) ?_
    refine lv_bipush (v := nI 32) hx hb d_BK_byteAt_24 (by decide +kernel) ?_
    refine lv_imul hx hb d_BK_byteAt_26 ?_
    refine ss_rt (y := nI ((G ((a - 64) / 32)) * 32)) (pk_mul _ _) ?_
    refine lv_iload_n hx hb d_BK_byteAt_27 rfl (lv_at hl 1 rfl) ?_
    refine lv_bipush (v := nI 32) hx hb d_BK_byteAt_28 (by decide +kernel) ?_
    refine lv_irem hx hb d_BK_byteAt_30 (by first | decide +kernel | exact nI_ne0 (by omega) (by omega)) ?_
    refine ss_rt (y := nI (a % 32)) (pk_rem (by omega) (by omega) (by omega)) ?_
    refine lv_iadd hx hb d_BK_byteAt_31 ?_
    refine ss_rt (y := nI ((G ((a - 64) / 32)) * 32 + (a % 32))) (nI_add _ _) ?_
    refine va_iald hx hb hK hP 2 0 rfl rfl (vp_in_nI (by omega) (by omega)) d_BK_byteAt_32 ?_
    refine ss_rt (y := nI (F ((G ((a - 64) / 32)) * 32 + (a % 32)))) (congrArg (fun z => nI (F z)) (nI_clamp (by omega))) ?_
    exact ro_reti hx hb hr hlocks d_BK_byteAt_33 (rfl)
  · have c1 := (bI_0).mp c1
    exfalso; omega
set_option maxHeartbeats 4000000 in
set_option maxRecDepth 100000 in
theorem c_BK_byteAto (l : Launch) (D : va_G) (k : Nat → ClassId) (ao bo co : Nat) (nb : Nat) (F G : Nat → Nat) (a : Nat) (ha : a < 256) (h1 : ¬ (64 ≤ a ∧ a ≤ 191)) : ro_i l y_BK_byteAt b_BK_byteAt 2 (some .int) { frames := 1, cells := 0, slots := 0, locals := 20 } D (kT k) (bkW ao bo co k nb F G) [.ref ao, .int (nI a)] (nI 255) := by
  refine ro_headi (by decide) (Nat.le_of_ble_eq_true rfl) ?_
  intro p e s m below meth c ls hx hb hr hlocks hml hown hts hP hK hl
  have hown : s.vm.findClass "SlotScreen$Banks" = some m.cls := hown
  have hl : lv_has ls 2 [(0, .ref ao), (1, .int (nI a))] := hl
  refine lv_iload_n hx hb d_BK_byteAt_0 rfl (lv_at hl 1 rfl) ?_
  refine kr_iS (As := [.int (nI a)]) (rest := []) ⟨hx, hb, hml, hown, hts⟩ (c_BK_isInWindow l D k a (by omega)) (va_cwS 1 hts (gS w_478 w_479 w_14 w_480) rfl rfl rfl (by decide +kernel) ⟨Nat.le_of_ble_eq_true rfl, Nat.le_of_ble_eq_true rfl⟩) hK va_nil rfl hl.1 rfl (Nat.le_of_ble_eq_true rfl) d_BK_byteAt_1 ⟨Nat.zero_le _, Nat.zero_le _⟩ ?_
  refine lv_if_ne (tgt := 11) hx hb d_BK_byteAt_4 (by decide) (fun c1 => ?_) (fun c1 => ?_)
  · have c1 := mt (bI_0).mpr c1
    have c1 := Classical.not_not.mp c1
    exfalso; omega
  · have c1 := (bI_0).mp c1
    refine lv_sipush (v := nI 255) hx hb d_BK_byteAt_7 (by decide +kernel) ?_
    exact ro_reti hx hb hr hlocks d_BK_byteAt_10 (rfl)
set_option maxHeartbeats 4000000 in
set_option maxRecDepth 100000 in
theorem c_BK_storei (l : Launch) (D : va_G) (k : Nat → ClassId) (ao bo co : Nat) (nb : Nat) (F G : Nat → Nat) (hn1 : 1 ≤ nb) (hn2 : nb ≤ 8) (a v : Nat) (ha : a < 256) (hv : v < 256) (h1 : 64 ≤ a ∧ a ≤ 191) : rw_v l y_BK_store b_BK_store 3 none { frames := 1, cells := 0, slots := 0, locals := 20 } D (kT k) (bkW ao bo co k nb F G) [.ref ao, .int (nI a), .int (nI v)] (fun (_ : Unit) => True) (fun (_ : Unit) => (bkW ao bo co k nb F (ss_up G ((a - 64) / 32) (v % nb)))) := by
  refine rw_headv (by decide) (Nat.le_of_ble_eq_true rfl) ?_
  intro p e s m below meth c ls A hx hb hr hlocks hml hown hts hK hA hP hD hS hl
  have hown : s.vm.findClass "SlotScreen$Banks" = some m.cls := hown
  have hl : lv_has ls 3 [(0, .ref ao), (1, .int (nI a)), (2, .int (nI v))] := hl
  refine lv_iload_n hx hb d_BK_store_0 rfl (lv_at hl 1 rfl) ?_
  refine kr_iS (As := [.int (nI a)]) (rest := []) ⟨hx, hb, hml, hown, hts⟩ (c_BK_isInWindow l D k a (by omega)) (va_cwS 1 hts (gS w_478 w_479 w_14 w_480) rfl rfl rfl (by decide +kernel) ⟨Nat.le_of_ble_eq_true rfl, Nat.le_of_ble_eq_true rfl⟩) hK va_nil rfl hl.1 rfl (Nat.le_of_ble_eq_true rfl) d_BK_store_1 ⟨Nat.zero_le _, Nat.zero_le _⟩ ?_
  refine lv_if_eq (tgt := 22) hx hb d_BK_store_4 (by decide) (fun c1 => ?_) (fun c1 => ?_)
  · have c1 := (bI_0).mp c1
    exfalso; omega
  · have c1 := mt (bI_0).mpr c1
    have c1 := Classical.not_not.mp c1
    refine lv_aload_n hx hb d_BK_store_7 rfl (lv_at hl 0 rfl) ?_
    refine va_get (D := D) (ci := 4) (v := .ref co) (C := R_BK) (T := T_BK) (N := 3) hx hb hts in_BK hown hK hP 0 rfl rfl 2 (by decide) (hts _ w_435) (fun _ h9 => h9) rfl d_BK_store_8 ?_
    refine lv_iload_n hx hb d_BK_store_11 rfl (lv_at hl 1 rfl) ?_
    refine kr_iS (As := [.int (nI a)]) (rest := [.ref co]) ⟨hx, hb, hml, hown, hts⟩ (c_BK_windowOf l D k a (by omega) (by omega)) (va_cwS 1 hts (gS w_481 w_482 w_14 w_483) rfl rfl rfl (by decide +kernel) ⟨Nat.le_of_ble_eq_true rfl, Nat.le_of_ble_eq_true rfl⟩) hK va_nil rfl hl.1 rfl (Nat.le_of_ble_eq_true rfl) d_BK_store_12 ⟨Nat.zero_le _, Nat.zero_le _⟩ ?_
    refine lv_iload_n hx hb d_BK_store_15 rfl (lv_at hl 2 rfl) ?_
    refine lv_aload_n hx hb d_BK_store_16 rfl (lv_at hl 0 rfl) ?_
    refine va_get (D := D) (ci := 4) (v := .int (nI nb)) (C := R_BK) (T := T_BK) (N := 3) hx hb hts in_BK hown hK hP 0 rfl rfl 0 (by decide) (hts _ w_433) (fun _ h9 => h9) rfl d_BK_store_17 ?_
    refine lv_irem hx hb d_BK_store_20 (by first | decide +kernel | exact nI_ne0 (by omega) (by omega)) ?_
    refine ss_rt (y := nI (v % nb)) (pk_rem (by omega) (by omega) (by omega)) ?_
    refine va_iast hx hb hK hP hD hS 1 0 rfl rfl (vp_in_nI (by omega) (by omega)) d_BK_store_21 (fun H locs hP hD hS => ?_)
    rw [ss_upI G (k := ((a - 64) / 32)) (v := (v % nb)) (by omega)] at hP hD
    have hP : va_P D vwCl (bkW ao bo co k nb F (ss_up G ((a - 64) / 32) (v % nb))) _ := hP
    have hD : va_D A (bkW ao bo co k nb F (ss_up G ((a - 64) / 32) (v % nb))) := hD
    exact rw_retv hx hb hr hlocks d_BK_store_22 hS () (trivial) hP
set_option maxHeartbeats 4000000 in
set_option maxRecDepth 100000 in
theorem c_BK_storeo (l : Launch) (D : va_G) (k : Nat → ClassId) (ao bo co : Nat) (nb : Nat) (F G : Nat → Nat) (a v : Nat) (ha : a < 256) (hv : v < 256) (h1 : ¬ (64 ≤ a ∧ a ≤ 191)) : rw_v l y_BK_store b_BK_store 3 none { frames := 1, cells := 0, slots := 0, locals := 20 } D (kT k) (bkW ao bo co k nb F G) [.ref ao, .int (nI a), .int (nI v)] (fun (_ : Unit) => True) (fun (_ : Unit) => (bkW ao bo co k nb F G)) := by
  refine rw_headv (by decide) (Nat.le_of_ble_eq_true rfl) ?_
  intro p e s m below meth c ls A hx hb hr hlocks hml hown hts hK hA hP hD hS hl
  have hown : s.vm.findClass "SlotScreen$Banks" = some m.cls := hown
  have hl : lv_has ls 3 [(0, .ref ao), (1, .int (nI a)), (2, .int (nI v))] := hl
  refine lv_iload_n hx hb d_BK_store_0 rfl (lv_at hl 1 rfl) ?_
  refine kr_iS (As := [.int (nI a)]) (rest := []) ⟨hx, hb, hml, hown, hts⟩ (c_BK_isInWindow l D k a (by omega)) (va_cwS 1 hts (gS w_478 w_479 w_14 w_480) rfl rfl rfl (by decide +kernel) ⟨Nat.le_of_ble_eq_true rfl, Nat.le_of_ble_eq_true rfl⟩) hK va_nil rfl hl.1 rfl (Nat.le_of_ble_eq_true rfl) d_BK_store_1 ⟨Nat.zero_le _, Nat.zero_le _⟩ ?_
  refine lv_if_eq (tgt := 22) hx hb d_BK_store_4 (by decide) (fun c1 => ?_) (fun c1 => ?_)
  · have c1 := (bI_0).mp c1
    exact rw_retv hx hb hr hlocks d_BK_store_22 hS () (trivial) hP
  · have c1 := mt (bI_0).mpr c1
    have c1 := Classical.not_not.mp c1
    exfalso; omega
set_option maxHeartbeats 4000000 in
set_option maxRecDepth 100000 in
theorem c_BK_fixi (l : Launch) (D : va_G) (k : Nat → ClassId) (ao bo co : Nat) (nb : Nat) (F G : Nat → Nat) (hn1 : 1 ≤ nb) (hn2 : nb ≤ 8) (x v : Nat) (hx9 : x < 32 * nb) : rw_i l y_BK_fix b_BK_fix 3 (some .boolean) { frames := 0, cells := 0, slots := 0, locals := 0 } D (kT k) (bkW ao bo co k nb F G) [.ref ao, .int (nI x), .int (nI v)] (fun (r : Int32) (_ : Unit) => r = nI 1) (fun (_ : Unit) => (bkW ao bo co k nb (ss_up F x v) G)) := by
  refine rw_headi (by decide) (Nat.le_of_ble_eq_true rfl) ?_
  intro p e s m below meth c ls A hx hb hr hlocks hml hown hts hK hA hP hD hS hl
  have hown : s.vm.findClass "SlotScreen$Banks" = some m.cls := hown
  have hl : lv_has ls 3 [(0, .ref ao), (1, .int (nI x)), (2, .int (nI v))] := hl
  refine lv_iload_n hx hb d_BK_fix_0 rfl (lv_at hl 1 rfl) ?_
  refine lv_if_lt (tgt := 13) hx hb d_BK_fix_1 (by decide) (fun c1 => ?_) (fun c1 => ?_)
  · have c1 := (n_lt0 (by omega)).mp c1
    exfalso; omega
  · have c1 := mt (n_lt0 (by omega)).mpr c1
    refine lv_iload_n hx hb d_BK_fix_4 rfl (lv_at hl 1 rfl) ?_
    refine lv_aload_n hx hb d_BK_fix_5 rfl (lv_at hl 0 rfl) ?_
    refine va_get (D := D) (ci := 4) (v := .ref bo) (C := R_BK) (T := T_BK) (N := 3) hx hb hts in_BK hown hK hP 0 rfl rfl 1 (by decide) (hts _ w_434) (fun _ h9 => h9) rfl d_BK_fix_6 ?_
    refine va_alen (v := nI (32 * nb)) hx hb hK hP 2 0 rfl rfl rfl d_BK_fix_9 ?_
    refine lv_icmp_lt (tgt := 15) hx hb d_BK_fix_10 (by decide) (fun c2 => ?_) (fun c2 => ?_)
    · have c2 := (nI_ltI (by omega) (by omega)).mp c2
      refine lv_aload_n hx hb d_BK_fix_15 rfl (lv_at hl 0 rfl) ?_
      refine va_get (D := D) (ci := 4) (v := .ref bo) (C := R_BK) (T := T_BK) (N := 3) hx hb hts in_BK hown hK hP 0 rfl rfl 1 (by decide) (hts _ w_434) (fun _ h9 => h9) rfl d_BK_fix_16 ?_
      refine lv_iload_n hx hb d_BK_fix_19 rfl (lv_at hl 1 rfl) ?_
      refine lv_iload_n hx hb d_BK_fix_20 rfl (lv_at hl 2 rfl) ?_
      refine va_iast hx hb hK hP hD hS 2 0 rfl rfl (vp_in_nI (by omega) (by omega)) d_BK_fix_21 (fun H locs hP hD hS => ?_)
      rw [ss_upI F (k := x) (v := v) (by omega)] at hP hD
      have hP : va_P D vwCl (bkW ao bo co k nb (ss_up F x v) G) _ := hP
      have hD : va_D A (bkW ao bo co k nb (ss_up F x v) G) := hD
      refine lv_iconst (v := nI 1) hx hb d_BK_fix_22 (by decide +kernel) ?_
      exact rw_retz hx hb hr hlocks d_BK_fix_23 (by decide +kernel) hS () (rfl) hP
    · have c2 := mt (nI_ltI (by omega) (by omega)).mpr c2
      exfalso; omega
set_option maxHeartbeats 4000000 in
set_option maxRecDepth 100000 in
theorem c_BK_fixo (l : Launch) (D : va_G) (k : Nat → ClassId) (ao bo co : Nat) (nb : Nat) (F G : Nat → Nat) (hn1 : 1 ≤ nb) (hn2 : nb ≤ 8) (x : Int32) (v : Nat) (hx9 : ¬ (0 ≤ x.toInt ∧ x.toInt < 32 * (nb : Int))) : rw_i l y_BK_fix b_BK_fix 3 (some .boolean) { frames := 0, cells := 0, slots := 0, locals := 0 } D (kT k) (bkW ao bo co k nb F G) [.ref ao, .int x, .int (nI v)] (fun (r : Int32) (_ : Unit) => r = nI 0) (fun (_ : Unit) => (bkW ao bo co k nb F G)) := by
  refine rw_headi (by decide) (Nat.le_of_ble_eq_true rfl) ?_
  intro p e s m below meth c ls A hx hb hr hlocks hml hown hts hK hA hP hD hS hl
  have hown : s.vm.findClass "SlotScreen$Banks" = some m.cls := hown
  have hl : lv_has ls 3 [(0, .ref ao), (1, .int x), (2, .int (nI v))] := hl
  refine lv_iload_n hx hb d_BK_fix_0 rfl (lv_at hl 1 rfl) ?_
  refine lv_if_lt (tgt := 13) hx hb d_BK_fix_1 (by decide) (fun c1 => ?_) (fun c1 => ?_)
  · have c1 := (z_lt0).mp c1
    refine lv_iconst (v := nI 0) hx hb d_BK_fix_13 (by decide +kernel) ?_
    exact rw_retz hx hb hr hlocks d_BK_fix_14 (by decide +kernel) hS () (rfl) hP
  · have c1 := mt (z_lt0).mpr c1
    refine lv_iload_n hx hb d_BK_fix_4 rfl (lv_at hl 1 rfl) ?_
    refine lv_aload_n hx hb d_BK_fix_5 rfl (lv_at hl 0 rfl) ?_
    refine va_get (D := D) (ci := 4) (v := .ref bo) (C := R_BK) (T := T_BK) (N := 3) hx hb hts in_BK hown hK hP 0 rfl rfl 1 (by decide) (hts _ w_434) (fun _ h9 => h9) rfl d_BK_fix_6 ?_
    refine va_alen (v := nI (32 * nb)) hx hb hK hP 2 0 rfl rfl rfl d_BK_fix_9 ?_
    refine lv_icmp_lt (tgt := 15) hx hb d_BK_fix_10 (by decide) (fun c2 => ?_) (fun c2 => ?_)
    · have c2 := (zn_lt (by omega)).mp c2
      exfalso; omega
    · have c2 := mt (zn_lt (by omega)).mpr c2
      refine lv_iconst (v := nI 0) hx hb d_BK_fix_13 (by decide +kernel) ?_
      exact rw_retz hx hb hr hlocks d_BK_fix_14 (by decide +kernel) hS () (rfl) hP
