set_option maxHeartbeats 4000000 in
set_option maxRecDepth 100000 in
/-- keeperOf -/
theorem c_X3_keeperOf (l : Launch) (D : va_G) (cD cC cI cZ cL : ClassId) (A : Nat → Prop) (σ : pgSt) (ρ : Nat → Int32) (th : Int32) (md : Nat → Nat) (n : Nat) (hI : pgI n σ) (d : Int32) : Met l yX3_keeperOf (.code yX3_keeperOf cX3_keeperOf 2 (some .int) :: pgWd) ({ frames := 3, cells := 0, slots := 0, locals := 64 } : Room) (pgPc D (pgTys cD cC cI cZ cL) A (pgM D cI cZ A σ ρ th md) [.ref (md 0), .int d]) (va_Qi (fun (r : Int32) (_ : Unit) => (sp_askD σ d 2).1 = 0 → r = (sp_askD σ d 2).2.1) (fun _ t9 => pgM D cI cZ A ((sp_askD σ d 2).2.2) ρ (nI (sp_askD σ d 2).1) md t9.heap) A) 0 0 A := by
  refine pg_enter (own := RX3) (by decide) rfl (Nat.le_of_ble_eq_true rfl) (fun p e s m below meth cc9 B hr hnm => ?_)
  refine j_aload_n B dX3_keeperOf_0 0 rfl rfl ?_
  refine j_iload_n B dX3_keeperOf_1 1 rfl rfl ?_
  refine j_cVi B (S := Unit) 1 [.int d] (WdC' := fun _ => pgM D cI cZ A σ ρ (if pgIsD σ d then 0 else 1) md) (fun _ => pgM D cI cZ A σ ρ (if pgIsD σ d then 0 else 1) md) (c_X3_isAsked l D cD cC cI cZ cL A σ ρ th md n hI d) rfl (fun H h => pgM.m h) q_666 q_668 q_p12 q_3 q_669 hdX3_isAsked rfl ⟨Nat.le_of_ble_eq_true rfl, Nat.le_of_ble_eq_true rfl⟩ (Nat.le_of_ble_eq_true rfl) dX3_keeperOf_2 rfl ⟨Nat.le_of_ble_eq_true rfl, Nat.le_of_ble_eq_true rfl⟩ (fun _ h => h) (fun _ _ _ _ h => h) (fun _ h => h) (fun _ _ _ _ h _ _ => h) (fun r1 _ hp2 => ?_)
  by_cases h3 : pgIsD σ d
  · obtain rfl : r1 = 1 := by rw [hp2]; exact if_pos h3
    refine j_if_eq B 17 dX3_keeperOf_5 (by decide) (fun h4 => (absurd h4 (by decide))) (fun h4 => ?_)
    refine j_aload_n B dX3_keeperOf_8 0 rfl rfl ?_
    refine j_get B (v := .ref (md 3)) pgX3 rfl (fun H h => pgM.m h) 3 (by decide) q_508 rfl rfl dX3_keeperOf_9 ?_
    refine j_iload_n B dX3_keeperOf_12 1 rfl rfl ?_
    refine j_ialdv B (fun H h => pgM.a3 h) 2 rfl (pg_inD hI h3) (v := σ 2 (ix d)) rfl dX3_keeperOf_13 ?_
    refine j_goto B 18 dX3_keeperOf_14 (by decide) ?_
    have e9 : sp_askD σ d 2 = (0, σ 2 (ix d), σ) := by
      simp only [sp_askD]; grind
    exact j_iret B hr rfl dX3_keeperOf_18 (Nat.le_of_ble_eq_true rfl) (Nat.le_of_ble_eq_true rfl) () (by rw [e9]; exact fun _ => rfl) (fun H h => by rw [e9]; first | exact h | (rw [if_pos h3] at h; exact h))
  · obtain rfl : r1 = 0 := by rw [hp2]; exact if_neg h3
    refine j_if_eq B 17 dX3_keeperOf_5 (by decide) (fun h5 => ?_) (fun h5 => (absurd (by decide) h5))
    refine j_iconst B (v := 0) dX3_keeperOf_17 (by decide) ?_
    have e9 : sp_askD σ d 2 = (1, 0, σ) := by
      simp only [sp_askD]; grind
    exact j_iret B hr rfl dX3_keeperOf_18 (Nat.le_of_ble_eq_true rfl) (Nat.le_of_ble_eq_true rfl) () (by rw [e9]; exact fun h => absurd h (show ¬ (1 : Nat) = 0 by decide)) (fun H h => by rw [e9]; first | exact h | (rw [if_neg h3] at h; exact h))
set_option maxHeartbeats 4000000 in
set_option maxRecDepth 100000 in
/-- keeperByLog -/
theorem c_X3_keeperByLog (l : Launch) (D : va_G) (cD cC cI cZ cL : ClassId) (A : Nat → Prop) (σ : pgSt) (ρ : Nat → Int32) (th : Int32) (md : Nat → Nat) (n : Nat) (hI : pgI n σ) (d : Int32) : Met l yX3_keeperByLog (.code yX3_keeperByLog cX3_keeperByLog 2 (some .int) :: pgWd) ({ frames := 3, cells := 0, slots := 0, locals := 64 } : Room) (pgPc D (pgTys cD cC cI cZ cL) A (pgM D cI cZ A σ ρ th md) [.ref (md 0), .int d]) (va_Qi (fun (r : Int32) (_ : Unit) => (sp_askD σ d 2).1 = 0 → r = (sp_askD σ d 2).2.1) (fun _ t9 => pgM D cI cZ A ((sp_askD σ d 2).2.2) ρ (nI (sp_askD σ d 2).1) md t9.heap) A) 0 0 A := by
  refine pg_enter (own := RX3) (by decide) rfl (Nat.le_of_ble_eq_true rfl) (fun p e s m below meth cc9 B hr hnm => ?_)
  refine j_aload_n B dX3_keeperByLog_0 0 rfl rfl ?_
  refine j_iload_n B dX3_keeperByLog_1 1 rfl rfl ?_
  refine j_cVi B (S := Unit) 1 [.int d] (WdC' := fun _ => pgM D cI cZ A σ ρ (if pgIsD σ d then 0 else 1) md) (fun _ => pgM D cI cZ A σ ρ (if pgIsD σ d then 0 else 1) md) (c_X3_isAsked l D cD cC cI cZ cL A σ ρ th md n hI d) rfl (fun H h => pgM.m h) q_666 q_668 q_p12 q_3 q_669 hdX3_isAsked rfl ⟨Nat.le_of_ble_eq_true rfl, Nat.le_of_ble_eq_true rfl⟩ (Nat.le_of_ble_eq_true rfl) dX3_keeperByLog_2 rfl ⟨Nat.le_of_ble_eq_true rfl, Nat.le_of_ble_eq_true rfl⟩ (fun _ h => h) (fun _ _ _ _ h => h) (fun _ h => h) (fun _ _ _ _ h _ _ => h) (fun r1 _ hp2 => ?_)
  by_cases h3 : pgIsD σ d
  · obtain rfl : r1 = 1 := by rw [hp2]; exact if_pos h3
    refine j_if_eq B 17 dX3_keeperByLog_5 (by decide) (fun h4 => (absurd h4 (by decide))) (fun h4 => ?_)
    refine j_aload_n B dX3_keeperByLog_8 0 rfl rfl ?_
    refine j_get B (v := .ref (md 3)) pgX3 rfl (fun H h => pgM.m h) 3 (by decide) q_508 rfl rfl dX3_keeperByLog_9 ?_
    refine j_iload_n B dX3_keeperByLog_12 1 rfl rfl ?_
    refine j_ialdv B (fun H h => pgM.a3 h) 2 rfl (pg_inD hI h3) (v := σ 2 (ix d)) rfl dX3_keeperByLog_13 ?_
    refine j_goto B 18 dX3_keeperByLog_14 (by decide) ?_
    have e9 : sp_askD σ d 2 = (0, σ 2 (ix d), σ) := by
      simp only [sp_askD]; grind
    exact j_iret B hr rfl dX3_keeperByLog_18 (Nat.le_of_ble_eq_true rfl) (Nat.le_of_ble_eq_true rfl) () (by rw [e9]; exact fun _ => rfl) (fun H h => by rw [e9]; first | exact h | (rw [if_pos h3] at h; exact h))
  · obtain rfl : r1 = 0 := by rw [hp2]; exact if_neg h3
    refine j_if_eq B 17 dX3_keeperByLog_5 (by decide) (fun h5 => ?_) (fun h5 => (absurd (by decide) h5))
    refine j_iconst B (v := 0) dX3_keeperByLog_17 (by decide) ?_
    have e9 : sp_askD σ d 2 = (1, 0, σ) := by
      simp only [sp_askD]; grind
    exact j_iret B hr rfl dX3_keeperByLog_18 (Nat.le_of_ble_eq_true rfl) (Nat.le_of_ble_eq_true rfl) () (by rw [e9]; exact fun h => absurd h (show ¬ (1 : Nat) = 0 by decide)) (fun H h => by rw [e9]; first | exact h | (rw [if_neg h3] at h; exact h))
set_option maxHeartbeats 4000000 in
set_option maxRecDepth 100000 in
/-- crateOf -/
theorem c_X3_crateOf (l : Launch) (D : va_G) (cD cC cI cZ cL : ClassId) (A : Nat → Prop) (σ : pgSt) (ρ : Nat → Int32) (th : Int32) (md : Nat → Nat) (n : Nat) (hI : pgI n σ) (d : Int32) : Met l yX3_crateOf (.code yX3_crateOf cX3_crateOf 2 (some .int) :: pgWd) ({ frames := 3, cells := 0, slots := 0, locals := 64 } : Room) (pgPc D (pgTys cD cC cI cZ cL) A (pgM D cI cZ A σ ρ th md) [.ref (md 0), .int d]) (va_Qi (fun (r : Int32) (_ : Unit) => (sp_askD σ d 3).1 = 0 → r = (sp_askD σ d 3).2.1) (fun _ t9 => pgM D cI cZ A ((sp_askD σ d 3).2.2) ρ (nI (sp_askD σ d 3).1) md t9.heap) A) 0 0 A := by
  refine pg_enter (own := RX3) (by decide) rfl (Nat.le_of_ble_eq_true rfl) (fun p e s m below meth cc9 B hr hnm => ?_)
  refine j_aload_n B dX3_crateOf_0 0 rfl rfl ?_
  refine j_iload_n B dX3_crateOf_1 1 rfl rfl ?_
  refine j_cVi B (S := Unit) 1 [.int d] (WdC' := fun _ => pgM D cI cZ A σ ρ (if pgIsD σ d then 0 else 1) md) (fun _ => pgM D cI cZ A σ ρ (if pgIsD σ d then 0 else 1) md) (c_X3_isAsked l D cD cC cI cZ cL A σ ρ th md n hI d) rfl (fun H h => pgM.m h) q_666 q_668 q_p12 q_3 q_669 hdX3_isAsked rfl ⟨Nat.le_of_ble_eq_true rfl, Nat.le_of_ble_eq_true rfl⟩ (Nat.le_of_ble_eq_true rfl) dX3_crateOf_2 rfl ⟨Nat.le_of_ble_eq_true rfl, Nat.le_of_ble_eq_true rfl⟩ (fun _ h => h) (fun _ _ _ _ h => h) (fun _ h => h) (fun _ _ _ _ h _ _ => h) (fun r1 _ hp2 => ?_)
  by_cases h3 : pgIsD σ d
  · obtain rfl : r1 = 1 := by rw [hp2]; exact if_pos h3
    refine j_if_eq B 17 dX3_crateOf_5 (by decide) (fun h4 => (absurd h4 (by decide))) (fun h4 => ?_)
    refine j_aload_n B dX3_crateOf_8 0 rfl rfl ?_
    refine j_get B (v := .ref (md 4)) pgX3 rfl (fun H h => pgM.m h) 4 (by decide) q_509 rfl rfl dX3_crateOf_9 ?_
    refine j_iload_n B dX3_crateOf_12 1 rfl rfl ?_
    refine j_ialdv B (fun H h => pgM.a4 h) 2 rfl (pg_inD hI h3) (v := σ 3 (ix d)) rfl dX3_crateOf_13 ?_
    refine j_goto B 18 dX3_crateOf_14 (by decide) ?_
    have e9 : sp_askD σ d 3 = (0, σ 3 (ix d), σ) := by
      simp only [sp_askD]; grind
    exact j_iret B hr rfl dX3_crateOf_18 (Nat.le_of_ble_eq_true rfl) (Nat.le_of_ble_eq_true rfl) () (by rw [e9]; exact fun _ => rfl) (fun H h => by rw [e9]; first | exact h | (rw [if_pos h3] at h; exact h))
  · obtain rfl : r1 = 0 := by rw [hp2]; exact if_neg h3
    refine j_if_eq B 17 dX3_crateOf_5 (by decide) (fun h5 => ?_) (fun h5 => (absurd (by decide) h5))
    refine j_iconst B (v := 0) dX3_crateOf_17 (by decide) ?_
    have e9 : sp_askD σ d 3 = (1, 0, σ) := by
      simp only [sp_askD]; grind
    exact j_iret B hr rfl dX3_crateOf_18 (Nat.le_of_ble_eq_true rfl) (Nat.le_of_ble_eq_true rfl) () (by rw [e9]; exact fun h => absurd h (show ¬ (1 : Nat) = 0 by decide)) (fun H h => by rw [e9]; first | exact h | (rw [if_neg h3] at h; exact h))
set_option maxHeartbeats 4000000 in
set_option maxRecDepth 100000 in
/-- stateOf -/
theorem c_X3_stateOf (l : Launch) (D : va_G) (cD cC cI cZ cL : ClassId) (A : Nat → Prop) (σ : pgSt) (ρ : Nat → Int32) (th : Int32) (md : Nat → Nat) (n : Nat) (hI : pgI n σ) (d : Int32) : Met l yX3_stateOf (.code yX3_stateOf cX3_stateOf 2 (some .int) :: pgWd) ({ frames := 3, cells := 0, slots := 0, locals := 64 } : Room) (pgPc D (pgTys cD cC cI cZ cL) A (pgM D cI cZ A σ ρ th md) [.ref (md 0), .int d]) (va_Qi (fun (r : Int32) (_ : Unit) => (sp_askD σ d 4).1 = 0 → r = (sp_askD σ d 4).2.1) (fun _ t9 => pgM D cI cZ A ((sp_askD σ d 4).2.2) ρ (nI (sp_askD σ d 4).1) md t9.heap) A) 0 0 A := by
  refine pg_enter (own := RX3) (by decide) rfl (Nat.le_of_ble_eq_true rfl) (fun p e s m below meth cc9 B hr hnm => ?_)
  refine j_aload_n B dX3_stateOf_0 0 rfl rfl ?_
  refine j_iload_n B dX3_stateOf_1 1 rfl rfl ?_
  refine j_cVi B (S := Unit) 1 [.int d] (WdC' := fun _ => pgM D cI cZ A σ ρ (if pgIsD σ d then 0 else 1) md) (fun _ => pgM D cI cZ A σ ρ (if pgIsD σ d then 0 else 1) md) (c_X3_isAsked l D cD cC cI cZ cL A σ ρ th md n hI d) rfl (fun H h => pgM.m h) q_666 q_668 q_p12 q_3 q_669 hdX3_isAsked rfl ⟨Nat.le_of_ble_eq_true rfl, Nat.le_of_ble_eq_true rfl⟩ (Nat.le_of_ble_eq_true rfl) dX3_stateOf_2 rfl ⟨Nat.le_of_ble_eq_true rfl, Nat.le_of_ble_eq_true rfl⟩ (fun _ h => h) (fun _ _ _ _ h => h) (fun _ h => h) (fun _ _ _ _ h _ _ => h) (fun r1 _ hp2 => ?_)
  by_cases h3 : pgIsD σ d
  · obtain rfl : r1 = 1 := by rw [hp2]; exact if_pos h3
    refine j_if_eq B 17 dX3_stateOf_5 (by decide) (fun h4 => (absurd h4 (by decide))) (fun h4 => ?_)
    refine j_aload_n B dX3_stateOf_8 0 rfl rfl ?_
    refine j_get B (v := .ref (md 5)) pgX3 rfl (fun H h => pgM.m h) 5 (by decide) q_510 rfl rfl dX3_stateOf_9 ?_
    refine j_iload_n B dX3_stateOf_12 1 rfl rfl ?_
    refine j_ialdv B (fun H h => pgM.a5 h) 2 rfl (pg_inD hI h3) (v := σ 4 (ix d)) rfl dX3_stateOf_13 ?_
    refine j_goto B 18 dX3_stateOf_14 (by decide) ?_
    have e9 : sp_askD σ d 4 = (0, σ 4 (ix d), σ) := by
      simp only [sp_askD]; grind
    exact j_iret B hr rfl dX3_stateOf_18 (Nat.le_of_ble_eq_true rfl) (Nat.le_of_ble_eq_true rfl) () (by rw [e9]; exact fun _ => rfl) (fun H h => by rw [e9]; first | exact h | (rw [if_pos h3] at h; exact h))
  · obtain rfl : r1 = 0 := by rw [hp2]; exact if_neg h3
    refine j_if_eq B 17 dX3_stateOf_5 (by decide) (fun h5 => ?_) (fun h5 => (absurd (by decide) h5))
    refine j_iconst B (v := 0) dX3_stateOf_17 (by decide) ?_
    have e9 : sp_askD σ d 4 = (1, 0, σ) := by
      simp only [sp_askD]; grind
    exact j_iret B hr rfl dX3_stateOf_18 (Nat.le_of_ble_eq_true rfl) (Nat.le_of_ble_eq_true rfl) () (by rw [e9]; exact fun h => absurd h (show ¬ (1 : Nat) = 0 by decide)) (fun H h => by rw [e9]; first | exact h | (rw [if_neg h3] at h; exact h))
set_option maxHeartbeats 4000000 in
set_option maxRecDepth 100000 in
/-- offeredTo -/
theorem c_X3_offeredTo (l : Launch) (D : va_G) (cD cC cI cZ cL : ClassId) (A : Nat → Prop) (σ : pgSt) (ρ : Nat → Int32) (th : Int32) (md : Nat → Nat) (n : Nat) (hI : pgI n σ) (d : Int32) : Met l yX3_offeredTo (.code yX3_offeredTo cX3_offeredTo 2 (some .int) :: pgWd) ({ frames := 3, cells := 0, slots := 0, locals := 64 } : Room) (pgPc D (pgTys cD cC cI cZ cL) A (pgM D cI cZ A σ ρ th md) [.ref (md 0), .int d]) (va_Qi (fun (r : Int32) (_ : Unit) => (sp_askD σ d 6).1 = 0 → r = (sp_askD σ d 6).2.1) (fun _ t9 => pgM D cI cZ A ((sp_askD σ d 6).2.2) ρ (nI (sp_askD σ d 6).1) md t9.heap) A) 0 0 A := by
  refine pg_enter (own := RX3) (by decide) rfl (Nat.le_of_ble_eq_true rfl) (fun p e s m below meth cc9 B hr hnm => ?_)
  refine j_aload_n B dX3_offeredTo_0 0 rfl rfl ?_
  refine j_iload_n B dX3_offeredTo_1 1 rfl rfl ?_
  refine j_cVi B (S := Unit) 1 [.int d] (WdC' := fun _ => pgM D cI cZ A σ ρ (if pgIsD σ d then 0 else 1) md) (fun _ => pgM D cI cZ A σ ρ (if pgIsD σ d then 0 else 1) md) (c_X3_isAsked l D cD cC cI cZ cL A σ ρ th md n hI d) rfl (fun H h => pgM.m h) q_666 q_668 q_p12 q_3 q_669 hdX3_isAsked rfl ⟨Nat.le_of_ble_eq_true rfl, Nat.le_of_ble_eq_true rfl⟩ (Nat.le_of_ble_eq_true rfl) dX3_offeredTo_2 rfl ⟨Nat.le_of_ble_eq_true rfl, Nat.le_of_ble_eq_true rfl⟩ (fun _ h => h) (fun _ _ _ _ h => h) (fun _ h => h) (fun _ _ _ _ h _ _ => h) (fun r1 _ hp2 => ?_)
  by_cases h3 : pgIsD σ d
  · obtain rfl : r1 = 1 := by rw [hp2]; exact if_pos h3
    refine j_if_eq B 17 dX3_offeredTo_5 (by decide) (fun h4 => (absurd h4 (by decide))) (fun h4 => ?_)
    refine j_aload_n B dX3_offeredTo_8 0 rfl rfl ?_
    refine j_get B (v := .ref (md 7)) pgX3 rfl (fun H h => pgM.m h) 7 (by decide) q_512 rfl rfl dX3_offeredTo_9 ?_
    refine j_iload_n B dX3_offeredTo_12 1 rfl rfl ?_
    refine j_ialdv B (fun H h => pgM.a7 h) 2 rfl (pg_inD hI h3) (v := σ 6 (ix d)) rfl dX3_offeredTo_13 ?_
    refine j_goto B 18 dX3_offeredTo_14 (by decide) ?_
    have e9 : sp_askD σ d 6 = (0, σ 6 (ix d), σ) := by
      simp only [sp_askD]; grind
    exact j_iret B hr rfl dX3_offeredTo_18 (Nat.le_of_ble_eq_true rfl) (Nat.le_of_ble_eq_true rfl) () (by rw [e9]; exact fun _ => rfl) (fun H h => by rw [e9]; first | exact h | (rw [if_pos h3] at h; exact h))
  · obtain rfl : r1 = 0 := by rw [hp2]; exact if_neg h3
    refine j_if_eq B 17 dX3_offeredTo_5 (by decide) (fun h5 => ?_) (fun h5 => (absurd (by decide) h5))
    refine j_iconst B (v := 0) dX3_offeredTo_17 (by decide) ?_
    have e9 : sp_askD σ d 6 = (1, 0, σ) := by
      simp only [sp_askD]; grind
    exact j_iret B hr rfl dX3_offeredTo_18 (Nat.le_of_ble_eq_true rfl) (Nat.le_of_ble_eq_true rfl) () (by rw [e9]; exact fun h => absurd h (show ¬ (1 : Nat) = 0 by decide)) (fun H h => by rw [e9]; first | exact h | (rw [if_neg h3] at h; exact h))
set_option maxHeartbeats 4000000 in
set_option maxRecDepth 100000 in
/-- certificateOf -/
theorem c_X3_certificateOf (l : Launch) (D : va_G) (cD cC cI cZ cL : ClassId) (A : Nat → Prop) (σ : pgSt) (ρ : Nat → Int32) (th : Int32) (md : Nat → Nat) (n : Nat) (hI : pgI n σ) (d : Int32) : Met l yX3_certificateOf (.code yX3_certificateOf cX3_certificateOf 2 (some .int) :: pgWd) ({ frames := 3, cells := 0, slots := 0, locals := 64 } : Room) (pgPc D (pgTys cD cC cI cZ cL) A (pgM D cI cZ A σ ρ th md) [.ref (md 0), .int d]) (va_Qi (fun (r : Int32) (_ : Unit) => (sp_askD σ d 9).1 = 0 → r = (sp_askD σ d 9).2.1) (fun _ t9 => pgM D cI cZ A ((sp_askD σ d 9).2.2) ρ (nI (sp_askD σ d 9).1) md t9.heap) A) 0 0 A := by
  refine pg_enter (own := RX3) (by decide) rfl (Nat.le_of_ble_eq_true rfl) (fun p e s m below meth cc9 B hr hnm => ?_)
  refine j_aload_n B dX3_certificateOf_0 0 rfl rfl ?_
  refine j_iload_n B dX3_certificateOf_1 1 rfl rfl ?_
  refine j_cVi B (S := Unit) 1 [.int d] (WdC' := fun _ => pgM D cI cZ A σ ρ (if pgIsD σ d then 0 else 1) md) (fun _ => pgM D cI cZ A σ ρ (if pgIsD σ d then 0 else 1) md) (c_X3_isAsked l D cD cC cI cZ cL A σ ρ th md n hI d) rfl (fun H h => pgM.m h) q_666 q_668 q_p12 q_3 q_669 hdX3_isAsked rfl ⟨Nat.le_of_ble_eq_true rfl, Nat.le_of_ble_eq_true rfl⟩ (Nat.le_of_ble_eq_true rfl) dX3_certificateOf_2 rfl ⟨Nat.le_of_ble_eq_true rfl, Nat.le_of_ble_eq_true rfl⟩ (fun _ h => h) (fun _ _ _ _ h => h) (fun _ h => h) (fun _ _ _ _ h _ _ => h) (fun r1 _ hp2 => ?_)
  by_cases h3 : pgIsD σ d
  · obtain rfl : r1 = 1 := by rw [hp2]; exact if_pos h3
    refine j_if_eq B 17 dX3_certificateOf_5 (by decide) (fun h4 => (absurd h4 (by decide))) (fun h4 => ?_)
    refine j_aload_n B dX3_certificateOf_8 0 rfl rfl ?_
    refine j_get B (v := .ref (md 10)) pgX3 rfl (fun H h => pgM.m h) 10 (by decide) q_515 rfl rfl dX3_certificateOf_9 ?_
    refine j_iload_n B dX3_certificateOf_12 1 rfl rfl ?_
    refine j_ialdv B (fun H h => pgM.a10 h) 2 rfl (pg_inD hI h3) (v := σ 9 (ix d)) rfl dX3_certificateOf_13 ?_
    refine j_goto B 18 dX3_certificateOf_14 (by decide) ?_
    have e9 : sp_askD σ d 9 = (0, σ 9 (ix d), σ) := by
      simp only [sp_askD]; grind
    exact j_iret B hr rfl dX3_certificateOf_18 (Nat.le_of_ble_eq_true rfl) (Nat.le_of_ble_eq_true rfl) () (by rw [e9]; exact fun _ => rfl) (fun H h => by rw [e9]; first | exact h | (rw [if_pos h3] at h; exact h))
  · obtain rfl : r1 = 0 := by rw [hp2]; exact if_neg h3
    refine j_if_eq B 17 dX3_certificateOf_5 (by decide) (fun h5 => ?_) (fun h5 => (absurd (by decide) h5))
    refine j_iconst B (v := 0) dX3_certificateOf_17 (by decide) ?_
    have e9 : sp_askD σ d 9 = (1, 0, σ) := by
      simp only [sp_askD]; grind
    exact j_iret B hr rfl dX3_certificateOf_18 (Nat.le_of_ble_eq_true rfl) (Nat.le_of_ble_eq_true rfl) () (by rw [e9]; exact fun h => absurd h (show ¬ (1 : Nat) = 0 by decide)) (fun H h => by rw [e9]; first | exact h | (rw [if_neg h3] at h; exact h))
set_option maxHeartbeats 4000000 in
set_option maxRecDepth 100000 in
/-- crateKeeper -/
theorem c_X3_crateKeeper (l : Launch) (D : va_G) (cD cC cI cZ cL : ClassId) (A : Nat → Prop) (σ : pgSt) (ρ : Nat → Int32) (th : Int32) (md : Nat → Nat) (n : Nat) (hI : pgI n σ) (d : Int32) : Met l yX3_crateKeeper (.code yX3_crateKeeper cX3_crateKeeper 2 (some .int) :: pgWd) ({ frames := 2, cells := 0, slots := 0, locals := 42 } : Room) (pgPc D (pgTys cD cC cI cZ cL) A (pgM D cI cZ A σ ρ th md) [.ref (md 0), .int d]) (va_Qi (fun (r : Int32) (_ : Unit) => (sp_askC σ d 10).1 = 0 → r = (sp_askC σ d 10).2.1) (fun _ t9 => pgM D cI cZ A ((sp_askC σ d 10).2.2) ρ (nI (sp_askC σ d 10).1) md t9.heap) A) 0 0 A := by
  refine pg_enter (own := RX3) (by decide) rfl (Nat.le_of_ble_eq_true rfl) (fun p e s m below meth cc9 B hr hnm => ?_)
  refine j_aload_n B dX3_crateKeeper_0 0 rfl rfl ?_
  refine j_iload_n B dX3_crateKeeper_1 1 rfl rfl ?_
  refine j_cSi B (S := Unit) 1 [.int d] (WdC' := fun _ => pgM D cI cZ A σ ρ th md) (fun _ => pgM D cI cZ A σ ρ th md) (c_X3_isCrate l D cD cC cI cZ cL A σ ρ th md d) q_607 q_608 q_3 q_609 hdX3_isCrate rfl ⟨Nat.le_of_ble_eq_true rfl, Nat.le_of_ble_eq_true rfl⟩ (Nat.le_of_ble_eq_true rfl) dX3_crateKeeper_2 rfl ⟨Nat.le_of_ble_eq_true rfl, Nat.le_of_ble_eq_true rfl⟩ (fun _ h => h) (fun _ _ _ _ h => h) (fun _ h => h) (fun _ _ _ _ h _ _ => h) (fun r1 _ hp2 => ?_)
  by_cases h3 : pgIsC d
  · obtain rfl : r1 = 1 := by rw [hp2]; exact if_pos h3
    refine j_if_eq B 12 dX3_crateKeeper_5 (by decide) (fun h4 => (absurd h4 (by decide))) (fun h4 => ?_)
    refine j_iconst B (v := 0) dX3_crateKeeper_8 (by decide) ?_
    refine j_goto B 13 dX3_crateKeeper_9 (by decide) ?_
    refine j_cVi B (S := Unit) 1 [.int 0] (WdC' := fun _ => pgM D cI cZ A σ ρ 0 md) (fun _ => pgM D cI cZ A σ ρ 0 md) (c_X3_can l D cD cC cI cZ cL A σ ρ th md 0) rfl (fun H h => pgM.m h) q_579 q_581 q_p6 q_3 q_582 hdX3_can rfl ⟨Nat.le_of_ble_eq_true rfl, Nat.le_of_ble_eq_true rfl⟩ (Nat.le_of_ble_eq_true rfl) dX3_crateKeeper_13 rfl ⟨Nat.le_of_ble_eq_true rfl, Nat.le_of_ble_eq_true rfl⟩ (fun _ h => h) (fun _ _ _ _ h => h) (fun _ h => h) (fun _ _ _ _ h _ _ => h) (fun r5 _ hp6 => ?_)
    obtain rfl : r5 = 1 := by rw [hp6]; rfl
    refine j_if_eq B 28 dX3_crateKeeper_16 (by decide) (fun h7 => (absurd h7 (by decide))) (fun h7 => ?_)
    refine j_aload_n B dX3_crateKeeper_19 0 rfl rfl ?_
    refine j_get B (v := .ref (md 11)) pgX3 rfl (fun H h => pgM.m h) 11 (by decide) q_516 rfl rfl dX3_crateKeeper_20 ?_
    refine j_iload_n B dX3_crateKeeper_23 1 rfl rfl ?_
    refine j_ialdv B (fun H h => pgM.a11 h) 2 rfl (pg_inC h3) (v := σ 10 (ix d)) rfl dX3_crateKeeper_24 ?_
    refine j_goto B 29 dX3_crateKeeper_25 (by decide) ?_
    have e9 : sp_askC σ d 10 = (0, σ 10 (ix d), σ) := by
      simp only [sp_askC]; grind
    exact j_iret B hr rfl dX3_crateKeeper_29 (Nat.le_of_ble_eq_true rfl) (Nat.le_of_ble_eq_true rfl) () (by rw [e9]; exact fun _ => rfl) (fun H h => by rw [e9]; first | exact h | (rw [if_pos h3] at h; exact h))
  · obtain rfl : r1 = 0 := by rw [hp2]; exact if_neg h3
    refine j_if_eq B 12 dX3_crateKeeper_5 (by decide) (fun h8 => ?_) (fun h8 => (absurd (by decide) h8))
    refine j_iconst B (v := 1) dX3_crateKeeper_12 (by decide) ?_
    refine j_cVi B (S := Unit) 1 [.int 1] (WdC' := fun _ => pgM D cI cZ A σ ρ 1 md) (fun _ => pgM D cI cZ A σ ρ 1 md) (c_X3_can l D cD cC cI cZ cL A σ ρ th md 1) rfl (fun H h => pgM.m h) q_579 q_581 q_p6 q_3 q_582 hdX3_can rfl ⟨Nat.le_of_ble_eq_true rfl, Nat.le_of_ble_eq_true rfl⟩ (Nat.le_of_ble_eq_true rfl) dX3_crateKeeper_13 rfl ⟨Nat.le_of_ble_eq_true rfl, Nat.le_of_ble_eq_true rfl⟩ (fun _ h => h) (fun _ _ _ _ h => h) (fun _ h => h) (fun _ _ _ _ h _ _ => h) (fun r9 _ hp10 => ?_)
    obtain rfl : r9 = 0 := by rw [hp10]; rfl
    refine j_if_eq B 28 dX3_crateKeeper_16 (by decide) (fun h11 => ?_) (fun h11 => (absurd (by decide) h11))
    refine j_iconst B (v := 0) dX3_crateKeeper_28 (by decide) ?_
    have e9 : sp_askC σ d 10 = (1, 0, σ) := by
      simp only [sp_askC]; grind
    exact j_iret B hr rfl dX3_crateKeeper_29 (Nat.le_of_ble_eq_true rfl) (Nat.le_of_ble_eq_true rfl) () (by rw [e9]; exact fun h => absurd h (show ¬ (1 : Nat) = 0 by decide)) (fun H h => by rw [e9]; first | exact h | (rw [if_neg h3] at h; exact h))
set_option maxHeartbeats 4000000 in
set_option maxRecDepth 100000 in
/-- sealOf -/
theorem c_X3_sealOf (l : Launch) (D : va_G) (cD cC cI cZ cL : ClassId) (A : Nat → Prop) (σ : pgSt) (ρ : Nat → Int32) (th : Int32) (md : Nat → Nat) (n : Nat) (hI : pgI n σ) (d : Int32) : Met l yX3_sealOf (.code yX3_sealOf cX3_sealOf 2 (some .int) :: pgWd) ({ frames := 2, cells := 0, slots := 0, locals := 42 } : Room) (pgPc D (pgTys cD cC cI cZ cL) A (pgM D cI cZ A σ ρ th md) [.ref (md 0), .int d]) (va_Qi (fun (r : Int32) (_ : Unit) => (sp_askC σ d 11).1 = 0 → r = (sp_askC σ d 11).2.1) (fun _ t9 => pgM D cI cZ A ((sp_askC σ d 11).2.2) ρ (nI (sp_askC σ d 11).1) md t9.heap) A) 0 0 A := by
  refine pg_enter (own := RX3) (by decide) rfl (Nat.le_of_ble_eq_true rfl) (fun p e s m below meth cc9 B hr hnm => ?_)
  refine j_aload_n B dX3_sealOf_0 0 rfl rfl ?_
  refine j_iload_n B dX3_sealOf_1 1 rfl rfl ?_
  refine j_cSi B (S := Unit) 1 [.int d] (WdC' := fun _ => pgM D cI cZ A σ ρ th md) (fun _ => pgM D cI cZ A σ ρ th md) (c_X3_isCrate l D cD cC cI cZ cL A σ ρ th md d) q_607 q_608 q_3 q_609 hdX3_isCrate rfl ⟨Nat.le_of_ble_eq_true rfl, Nat.le_of_ble_eq_true rfl⟩ (Nat.le_of_ble_eq_true rfl) dX3_sealOf_2 rfl ⟨Nat.le_of_ble_eq_true rfl, Nat.le_of_ble_eq_true rfl⟩ (fun _ h => h) (fun _ _ _ _ h => h) (fun _ h => h) (fun _ _ _ _ h _ _ => h) (fun r1 _ hp2 => ?_)
  by_cases h3 : pgIsC d
  · obtain rfl : r1 = 1 := by rw [hp2]; exact if_pos h3
    refine j_if_eq B 12 dX3_sealOf_5 (by decide) (fun h4 => (absurd h4 (by decide))) (fun h4 => ?_)
    refine j_iconst B (v := 0) dX3_sealOf_8 (by decide) ?_
    refine j_goto B 13 dX3_sealOf_9 (by decide) ?_
    refine j_cVi B (S := Unit) 1 [.int 0] (WdC' := fun _ => pgM D cI cZ A σ ρ 0 md) (fun _ => pgM D cI cZ A σ ρ 0 md) (c_X3_can l D cD cC cI cZ cL A σ ρ th md 0) rfl (fun H h => pgM.m h) q_579 q_581 q_p6 q_3 q_582 hdX3_can rfl ⟨Nat.le_of_ble_eq_true rfl, Nat.le_of_ble_eq_true rfl⟩ (Nat.le_of_ble_eq_true rfl) dX3_sealOf_13 rfl ⟨Nat.le_of_ble_eq_true rfl, Nat.le_of_ble_eq_true rfl⟩ (fun _ h => h) (fun _ _ _ _ h => h) (fun _ h => h) (fun _ _ _ _ h _ _ => h) (fun r5 _ hp6 => ?_)
    obtain rfl : r5 = 1 := by rw [hp6]; rfl
    refine j_if_eq B 28 dX3_sealOf_16 (by decide) (fun h7 => (absurd h7 (by decide))) (fun h7 => ?_)
    refine j_aload_n B dX3_sealOf_19 0 rfl rfl ?_
    refine j_get B (v := .ref (md 12)) pgX3 rfl (fun H h => pgM.m h) 12 (by decide) q_517 rfl rfl dX3_sealOf_20 ?_
    refine j_iload_n B dX3_sealOf_23 1 rfl rfl ?_
    refine j_ialdv B (fun H h => pgM.a12 h) 2 rfl (pg_inC h3) (v := σ 11 (ix d)) rfl dX3_sealOf_24 ?_
    refine j_goto B 29 dX3_sealOf_25 (by decide) ?_
    have e9 : sp_askC σ d 11 = (0, σ 11 (ix d), σ) := by
      simp only [sp_askC]; grind
    exact j_iret B hr rfl dX3_sealOf_29 (Nat.le_of_ble_eq_true rfl) (Nat.le_of_ble_eq_true rfl) () (by rw [e9]; exact fun _ => rfl) (fun H h => by rw [e9]; first | exact h | (rw [if_pos h3] at h; exact h))
  · obtain rfl : r1 = 0 := by rw [hp2]; exact if_neg h3
    refine j_if_eq B 12 dX3_sealOf_5 (by decide) (fun h8 => ?_) (fun h8 => (absurd (by decide) h8))
    refine j_iconst B (v := 1) dX3_sealOf_12 (by decide) ?_
    refine j_cVi B (S := Unit) 1 [.int 1] (WdC' := fun _ => pgM D cI cZ A σ ρ 1 md) (fun _ => pgM D cI cZ A σ ρ 1 md) (c_X3_can l D cD cC cI cZ cL A σ ρ th md 1) rfl (fun H h => pgM.m h) q_579 q_581 q_p6 q_3 q_582 hdX3_can rfl ⟨Nat.le_of_ble_eq_true rfl, Nat.le_of_ble_eq_true rfl⟩ (Nat.le_of_ble_eq_true rfl) dX3_sealOf_13 rfl ⟨Nat.le_of_ble_eq_true rfl, Nat.le_of_ble_eq_true rfl⟩ (fun _ h => h) (fun _ _ _ _ h => h) (fun _ h => h) (fun _ _ _ _ h _ _ => h) (fun r9 _ hp10 => ?_)
    obtain rfl : r9 = 0 := by rw [hp10]; rfl
    refine j_if_eq B 28 dX3_sealOf_16 (by decide) (fun h11 => ?_) (fun h11 => (absurd (by decide) h11))
    refine j_iconst B (v := 0) dX3_sealOf_28 (by decide) ?_
    have e9 : sp_askC σ d 11 = (1, 0, σ) := by
      simp only [sp_askC]; grind
    exact j_iret B hr rfl dX3_sealOf_29 (Nat.le_of_ble_eq_true rfl) (Nat.le_of_ble_eq_true rfl) () (by rw [e9]; exact fun h => absurd h (show ¬ (1 : Nat) = 0 by decide)) (fun H h => by rw [e9]; first | exact h | (rw [if_neg h3] at h; exact h))
set_option maxHeartbeats 4000000 in
set_option maxRecDepth 100000 in
/-- isDone -/
theorem c_X3_isDone (l : Launch) (D : va_G) (cD cC cI cZ cL : ClassId) (A : Nat → Prop) (σ : pgSt) (ρ : Nat → Int32) (th : Int32) (md : Nat → Nat) (n : Nat) (hI : pgI n σ) (d : Int32) : Met l yX3_isDone (.code yX3_isDone cX3_isDone 2 (some .boolean) :: pgWd) ({ frames := 3, cells := 0, slots := 0, locals := 64 } : Room) (pgPc D (pgTys cD cC cI cZ cL) A (pgM D cI cZ A σ ρ th md) [.ref (md 0), .int d]) (va_Qi (fun (r : Int32) (_ : Unit) => (sp_isDone σ d).1 = 0 → r = (sp_isDone σ d).2.1) (fun _ t9 => pgM D cI cZ A ((sp_isDone σ d).2.2) ρ (nI (sp_isDone σ d).1) md t9.heap) A) 0 0 A := by
  refine pg_enter (own := RX3) (by decide) rfl (Nat.le_of_ble_eq_true rfl) (fun p e s m below meth cc9 B hr hnm => ?_)
  refine j_aload_n B dX3_isDone_0 0 rfl rfl ?_
  refine j_iload_n B dX3_isDone_1 1 rfl rfl ?_
  refine j_cVi B (S := Unit) 1 [.int d] (WdC' := fun _ => pgM D cI cZ A σ ρ (if pgIsD σ d then 0 else 1) md) (fun _ => pgM D cI cZ A σ ρ (if pgIsD σ d then 0 else 1) md) (c_X3_isAsked l D cD cC cI cZ cL A σ ρ th md n hI d) rfl (fun H h => pgM.m h) q_666 q_668 q_p12 q_3 q_669 hdX3_isAsked rfl ⟨Nat.le_of_ble_eq_true rfl, Nat.le_of_ble_eq_true rfl⟩ (Nat.le_of_ble_eq_true rfl) dX3_isDone_2 rfl ⟨Nat.le_of_ble_eq_true rfl, Nat.le_of_ble_eq_true rfl⟩ (fun _ h => h) (fun _ _ _ _ h => h) (fun _ h => h) (fun _ _ _ _ h _ _ => h) (fun r1 _ hp2 => ?_)
  by_cases h3 : pgIsD σ d
  · obtain rfl : r1 = 1 := by rw [hp2]; exact if_pos h3
    refine j_if_eq B 20 dX3_isDone_5 (by decide) (fun h4 => (absurd h4 (by decide))) (fun h4 => ?_)
    refine j_aload_n B dX3_isDone_8 0 rfl rfl ?_
    refine j_iload_n B dX3_isDone_9 1 rfl rfl ?_
    refine j_cVi B (S := Unit) 1 [.int d] (WdC' := fun _ => pgM D cI cZ A σ ρ (if pgIsD σ d then 0 else 1) md) (fun _ => pgM D cI cZ A σ ρ (if pgIsD σ d then 0 else 1) md) (c_X3_isOver l D cD cC cI cZ cL A σ ρ (if pgIsD σ d then 0 else 1) md d (pg_inD hI h3)) rfl (fun H h => pgM.m h) q_654 q_656 q_p11 q_3 q_657 hdX3_isOver rfl ⟨Nat.le_of_ble_eq_true rfl, Nat.le_of_ble_eq_true rfl⟩ (Nat.le_of_ble_eq_true rfl) dX3_isDone_10 rfl ⟨Nat.le_of_ble_eq_true rfl, Nat.le_of_ble_eq_true rfl⟩ (fun _ h => h) (fun _ _ _ _ h => h) (fun _ h => h) (fun _ _ _ _ h _ _ => h) (fun r5 _ hp6 => ?_)
    by_cases h7 : pgFin σ (ix d)
    · obtain rfl : r5 = 1 := by rw [hp6]; exact if_pos h7
      refine j_if_eq B 20 dX3_isDone_13 (by decide) (fun h8 => (absurd h8 (by decide))) (fun h8 => ?_)
      refine j_iconst B (v := 1) dX3_isDone_16 (by decide) ?_
      refine j_goto B 21 dX3_isDone_17 (by decide) ?_
      have e9 : sp_isDone σ d = (0, 1, σ) := by
        simp only [sp_isDone]; grind
      exact j_iret B hr rfl dX3_isDone_21 (Nat.le_of_ble_eq_true rfl) (Nat.le_of_ble_eq_true rfl) () (by rw [e9]; exact fun _ => rfl) (fun H h => by rw [e9]; rw [if_pos h3] at h; exact h)
    · obtain rfl : r5 = 0 := by rw [hp6]; exact if_neg h7
      refine j_if_eq B 20 dX3_isDone_13 (by decide) (fun h9 => ?_) (fun h9 => (absurd (by decide) h9))
      refine j_iconst B (v := 0) dX3_isDone_20 (by decide) ?_
      have e9 : sp_isDone σ d = (0, 0, σ) := by
        simp only [sp_isDone]; grind
      exact j_iret B hr rfl dX3_isDone_21 (Nat.le_of_ble_eq_true rfl) (Nat.le_of_ble_eq_true rfl) () (by rw [e9]; exact fun _ => rfl) (fun H h => by rw [e9]; rw [if_pos h3] at h; exact h)
  · obtain rfl : r1 = 0 := by rw [hp2]; exact if_neg h3
    refine j_if_eq B 20 dX3_isDone_5 (by decide) (fun h10 => ?_) (fun h10 => (absurd (by decide) h10))
    refine j_iconst B (v := 0) dX3_isDone_20 (by decide) ?_
    have e9 : sp_isDone σ d = (1, 0, σ) := by
      simp only [sp_isDone]; grind
    exact j_iret B hr rfl dX3_isDone_21 (Nat.le_of_ble_eq_true rfl) (Nat.le_of_ble_eq_true rfl) () (by rw [e9]; exact fun h => absurd h (show ¬ (1 : Nat) = 0 by decide)) (fun H h => by rw [e9]; rw [if_neg h3] at h; exact h)
set_option maxHeartbeats 4000000 in
set_option maxRecDepth 100000 in
/-- disks -/
theorem c_X3_disks (l : Launch) (D : va_G) (cD cC cI cZ cL : ClassId) (A : Nat → Prop) (σ : pgSt) (ρ : Nat → Int32) (th : Int32) (md : Nat → Nat)  : Met l yX3_disks (.code yX3_disks cX3_disks 1 (some .int) :: pgWd) ({ frames := 0, cells := 0, slots := 0, locals := 0 } : Room) (pgPc D (pgTys cD cC cI cZ cL) A (pgM D cI cZ A σ ρ th md) [.ref (md 0)]) (va_Qi (fun (r : Int32) (_ : Unit) => r = σ 13 0) (fun _ t9 => pgM D cI cZ A σ ρ 0 md t9.heap) A) 0 0 A := by
  refine pg_enter (own := RX3) (by decide) rfl (Nat.le_of_ble_eq_true rfl) (fun p e s m below meth cc9 B hr hnm => ?_)
  refine j_fact (fun H h => pgM.inA h) (fun hIn => ?_)
  refine j_aload_n B dX3_disks_0 0 rfl rfl ?_
  refine j_iconst B (v := 0) dX3_disks_1 (by decide) ?_
  refine j_put B (Wd' := pgM D cI cZ A σ ρ 0 md) pgX3 tyX3 tyX3_ok nmX3 rfl (fun H h => pgM.m h) 18 (by decide) q_523 rfl rfl rfl rfl rfl (Nat.le_of_ble_eq_true rfl) dX3_disks_2 (hIn 0 (by omega)) (fun H H1 h hc hz ho => pgM.putT h pgMs18 hc ho) ?_
  refine j_aload_n B dX3_disks_5 0 rfl rfl ?_
  refine j_get B (v := .int (σ 13 0)) pgX3 rfl (fun H h => pgM.m h) 0 (by decide) q_505 rfl rfl dX3_disks_6 ?_
  exact j_iret B hr rfl dX3_disks_9 (Nat.le_of_ble_eq_true rfl) (Nat.le_of_ble_eq_true rfl) () rfl (fun H h => h)
set_option maxHeartbeats 4000000 in
set_option maxRecDepth 100000 in
/-- oddCounts -/
theorem c_X3_oddCounts (l : Launch) (D : va_G) (cD cC cI cZ cL : ClassId) (A : Nat → Prop) (σ : pgSt) (ρ : Nat → Int32) (th : Int32) (md : Nat → Nat)  : Met l yX3_oddCounts (.code yX3_oddCounts cX3_oddCounts 1 (some .int) :: pgWd) ({ frames := 0, cells := 0, slots := 0, locals := 0 } : Room) (pgPc D (pgTys cD cC cI cZ cL) A (pgM D cI cZ A σ ρ th md) [.ref (md 0)]) (va_Qi (fun (r : Int32) (_ : Unit) => r = σ 13 2) (fun _ t9 => pgM D cI cZ A σ ρ 0 md t9.heap) A) 0 0 A := by
  refine pg_enter (own := RX3) (by decide) rfl (Nat.le_of_ble_eq_true rfl) (fun p e s m below meth cc9 B hr hnm => ?_)
  refine j_fact (fun H h => pgM.inA h) (fun hIn => ?_)
  refine j_aload_n B dX3_oddCounts_0 0 rfl rfl ?_
  refine j_iconst B (v := 0) dX3_oddCounts_1 (by decide) ?_
  refine j_put B (Wd' := pgM D cI cZ A σ ρ 0 md) pgX3 tyX3 tyX3_ok nmX3 rfl (fun H h => pgM.m h) 18 (by decide) q_523 rfl rfl rfl rfl rfl (Nat.le_of_ble_eq_true rfl) dX3_oddCounts_2 (hIn 0 (by omega)) (fun H H1 h hc hz ho => pgM.putT h pgMs18 hc ho) ?_
  refine j_aload_n B dX3_oddCounts_5 0 rfl rfl ?_
  refine j_get B (v := .int (σ 13 2)) pgX3 rfl (fun H h => pgM.m h) 15 (by decide) q_520 rfl rfl dX3_oddCounts_6 ?_
  exact j_iret B hr rfl dX3_oddCounts_9 (Nat.le_of_ble_eq_true rfl) (Nat.le_of_ble_eq_true rfl) () rfl (fun H h => h)
set_option maxHeartbeats 4000000 in
set_option maxRecDepth 100000 in
/-- logged -/
theorem c_X3_logged (l : Launch) (D : va_G) (cD cC cI cZ cL : ClassId) (A : Nat → Prop) (σ : pgSt) (ρ : Nat → Int32) (th : Int32) (md : Nat → Nat)  : Met l yX3_logged (.code yX3_logged cX3_logged 1 (some .int) :: pgWd) ({ frames := 0, cells := 0, slots := 0, locals := 0 } : Room) (pgPc D (pgTys cD cC cI cZ cL) A (pgM D cI cZ A σ ρ th md) [.ref (md 0)]) (va_Qi (fun (r : Int32) (_ : Unit) => r = σ 13 3) (fun _ t9 => pgM D cI cZ A σ ρ 0 md t9.heap) A) 0 0 A := by
  refine pg_enter (own := RX3) (by decide) rfl (Nat.le_of_ble_eq_true rfl) (fun p e s m below meth cc9 B hr hnm => ?_)
  refine j_fact (fun H h => pgM.inA h) (fun hIn => ?_)
  refine j_aload_n B dX3_logged_0 0 rfl rfl ?_
  refine j_iconst B (v := 0) dX3_logged_1 (by decide) ?_
  refine j_put B (Wd' := pgM D cI cZ A σ ρ 0 md) pgX3 tyX3 tyX3_ok nmX3 rfl (fun H h => pgM.m h) 18 (by decide) q_523 rfl rfl rfl rfl rfl (Nat.le_of_ble_eq_true rfl) dX3_logged_2 (hIn 0 (by omega)) (fun H H1 h hc hz ho => pgM.putT h pgMs18 hc ho) ?_
  refine j_aload_n B dX3_logged_5 0 rfl rfl ?_
  refine j_get B (v := .int (σ 13 3)) pgX3 rfl (fun H h => pgM.m h) 16 (by decide) q_521 rfl rfl dX3_logged_6 ?_
  exact j_iret B hr rfl dX3_logged_9 (Nat.le_of_ble_eq_true rfl) (Nat.le_of_ble_eq_true rfl) () rfl (fun H h => h)
set_option maxHeartbeats 4000000 in
set_option maxRecDepth 100000 in
/-- certificates -/
theorem c_X3_certificates (l : Launch) (D : va_G) (cD cC cI cZ cL : ClassId) (A : Nat → Prop) (σ : pgSt) (ρ : Nat → Int32) (th : Int32) (md : Nat → Nat)  : Met l yX3_certificates (.code yX3_certificates cX3_certificates 1 (some .int) :: pgWd) ({ frames := 0, cells := 0, slots := 0, locals := 0 } : Room) (pgPc D (pgTys cD cC cI cZ cL) A (pgM D cI cZ A σ ρ th md) [.ref (md 0)]) (va_Qi (fun (r : Int32) (_ : Unit) => r = σ 13 4) (fun _ t9 => pgM D cI cZ A σ ρ 0 md t9.heap) A) 0 0 A := by
  refine pg_enter (own := RX3) (by decide) rfl (Nat.le_of_ble_eq_true rfl) (fun p e s m below meth cc9 B hr hnm => ?_)
  refine j_fact (fun H h => pgM.inA h) (fun hIn => ?_)
  refine j_aload_n B dX3_certificates_0 0 rfl rfl ?_
  refine j_iconst B (v := 0) dX3_certificates_1 (by decide) ?_
  refine j_put B (Wd' := pgM D cI cZ A σ ρ 0 md) pgX3 tyX3 tyX3_ok nmX3 rfl (fun H h => pgM.m h) 18 (by decide) q_523 rfl rfl rfl rfl rfl (Nat.le_of_ble_eq_true rfl) dX3_certificates_2 (hIn 0 (by omega)) (fun H H1 h hc hz ho => pgM.putT h pgMs18 hc ho) ?_
  refine j_aload_n B dX3_certificates_5 0 rfl rfl ?_
  refine j_get B (v := .int (σ 13 4)) pgX3 rfl (fun H h => pgM.m h) 17 (by decide) q_522 rfl rfl dX3_certificates_6 ?_
  exact j_iret B hr rfl dX3_certificates_9 (Nat.le_of_ble_eq_true rfl) (Nat.le_of_ble_eq_true rfl) () rfl (fun H h => h)
set_option maxHeartbeats 4000000 in
set_option maxRecDepth 100000 in
/-- has -/
theorem c_X3_has (l : Launch) (D : va_G) (cD cC cI cZ cL : ClassId) (A : Nat → Prop) (σ : pgSt) (ρ : Nat → Int32) (th : Int32) (md : Nat → Nat) (n : Nat) (hI : pgI n σ) (k0 : Int32) : Met l yX3_has (.code yX3_has cX3_has 4 (some .int) :: pgWd) ({ frames := 2, cells := 0, slots := 0, locals := 42 } : Room) (pgPc D (pgTys cD cC cI cZ cL) A (pgM D cI cZ A σ ρ th md) [.ref (md 0), .int k0]) (va_Qi (fun (r : Int32) (_ : Unit) => (sp_has σ k0).1 = 0 → r = (sp_has σ k0).2.1) (fun _ t9 => pgM D cI cZ A ((sp_has σ k0).2.2) ρ (nI (sp_has σ k0).1) md t9.heap) A) 0 0 A := by
  refine pg_enter (own := RX3) (by decide) rfl (Nat.le_of_ble_eq_true rfl) (fun p e s m below meth cc9 B hr hnm => ?_)
  refine j_aload_n B dX3_has_0 0 rfl rfl ?_
  refine j_iload_n B dX3_has_1 1 rfl rfl ?_
  refine j_cSi B (S := Unit) 1 [.int k0] (WdC' := fun _ => pgM D cI cZ A σ ρ th md) (fun _ => pgM D cI cZ A σ ρ th md) (c_X3_isKeeper l D cD cC cI cZ cL A σ ρ th md k0) q_576 q_577 q_3 q_578 hdX3_isKeeper rfl ⟨Nat.le_of_ble_eq_true rfl, Nat.le_of_ble_eq_true rfl⟩ (Nat.le_of_ble_eq_true rfl) dX3_has_2 rfl ⟨Nat.le_of_ble_eq_true rfl, Nat.le_of_ble_eq_true rfl⟩ (fun _ h => h) (fun _ _ _ _ h => h) (fun _ h => h) (fun _ _ _ _ h _ _ => h) (fun r1 _ hp2 => ?_)
  by_cases h3 : pgIsK k0
  · obtain rfl : r1 = 1 := by rw [hp2]; exact if_pos h3
    refine j_if_eq B 12 dX3_has_5 (by decide) (fun h4 => (absurd h4 (by decide))) (fun h4 => ?_)
    refine j_iconst B (v := 0) dX3_has_8 (by decide) ?_
    refine j_goto B 13 dX3_has_9 (by decide) ?_
    refine j_cVi B (S := Unit) 1 [.int 0] (WdC' := fun _ => pgM D cI cZ A σ ρ 0 md) (fun _ => pgM D cI cZ A σ ρ 0 md) (c_X3_can l D cD cC cI cZ cL A σ ρ th md 0) rfl (fun H h => pgM.m h) q_579 q_581 q_p6 q_3 q_582 hdX3_can rfl ⟨Nat.le_of_ble_eq_true rfl, Nat.le_of_ble_eq_true rfl⟩ (Nat.le_of_ble_eq_true rfl) dX3_has_13 rfl ⟨Nat.le_of_ble_eq_true rfl, Nat.le_of_ble_eq_true rfl⟩ (fun _ h => h) (fun _ _ _ _ h => h) (fun _ h => h) (fun _ _ _ _ h _ _ => h) (fun r5 _ hp6 => ?_)
    obtain rfl : r5 = 1 := by rw [hp6]; rfl
    refine j_if_ne B 21 dX3_has_16 (by decide) (fun h7 => ?_) (fun h7 => (absurd h7 (by decide)))
    refine j_iconst B (v := 0) dX3_has_21 (by decide) ?_
    refine j_istore_n B (L' := [(2, .int 0), (0, .ref (md 0)), (1, .int k0)]) dX3_has_22 rfl (by decide) rfl ?_
    refine j_iconst B (v := 0) dX3_has_23 (by decide) ?_
    refine j_istore_n B (L' := [(3, .int 0), (2, .int 0), (0, .ref (md 0)), (1, .int k0)]) dX3_has_24 rfl (by decide) rfl ?_
    refine j_locals [0, 1, 3, 2] rfl ?_
    refine j_loop (N := n) (X := Int32) (fun i x => x = nI (pgN (fun j => decide (σ 2 j = k0)) i)) (fun i x => pgM D cI cZ A σ ρ 0 md) (fun i x => [(3, .int (nI i)), (2, .int x), (1, .int k0), (0, .ref (md 0))]) (fun i x hi hv ih => ?_) 0 0 (by omega) rfl
    refine j_iload_n B dX3_has_25 0 rfl rfl ?_
    refine j_aload_n B dX3_has_26 3 rfl rfl ?_
    refine j_get B (v := .int (σ 13 0)) pgX3 rfl (fun H h => pgM.m h) 0 (by decide) q_505 rfl rfl dX3_has_27 ?_
    refine j_icmp_ge B 57 dX3_has_30 (by decide) (fun h8 => ?_) (fun h8 => ?_)
    · rw [hI.2.1] at h8
      obtain rfl := pg_eqN hi (by have := hI.1; omega) h8
      refine j_iload_n B dX3_has_57 1 rfl rfl ?_
      have hn7 := pgI_n hI
      have e9 : sp_has σ k0 = (0, x, σ) := by
        rw [hv]
        simp only [sp_has, hn7]; grind
      exact j_iret B hr rfl dX3_has_58 (Nat.le_of_ble_eq_true rfl) (Nat.le_of_ble_eq_true rfl) () (by rw [e9]; exact fun _ => rfl) (fun H h => by rw [e9]; exact h)
    · rw [hI.2.1] at h8
      have hlt := pg_ltN (N := n) (by have := hI.1; omega) hi h8
      refine j_iload_n B dX3_has_33 1 rfl rfl ?_
      refine j_aload_n B dX3_has_34 3 rfl rfl ?_
      refine j_get B (v := .ref (md 3)) pgX3 rfl (fun H h => pgM.m h) 3 (by decide) q_508 rfl rfl dX3_has_35 ?_
      refine j_iload_n B dX3_has_38 0 rfl rfl ?_
      refine j_ialdv B (fun H h => pgM.a3 h) 2 rfl (vp_in_nI (Nat.lt_of_lt_of_le hlt hI.1) (by omega)) (v := σ 2 i) (congrArg _ (nI_clamp (by have := hI.1; omega))) dX3_has_39 ?_
      refine j_iload_n B dX3_has_40 2 rfl rfl ?_
      refine j_icmp_ne B 48 dX3_has_41 (by decide) (fun h9 => ?_) (fun h9 => ?_)
      · refine j_iconst B (v := 0) dX3_has_48 (by decide) ?_
        refine j_iadd B dX3_has_49 ?_
        refine j_istore_n B (L' := [(2, .int (x + 0)), (3, .int (nI i)), (1, .int k0), (0, .ref (md 0))]) dX3_has_50 rfl (by decide) rfl ?_
        refine j_iinc B (v := nI (i + 1)) (L' := [(3, .int (nI (i + 1))), (2, .int (x + 0)), (1, .int k0), (0, .ref (md 0))]) dX3_has_51 1 rfl (nI_1 i) (by decide) rfl ?_
        refine j_goto B 25 dX3_has_54 (by decide) ?_
        refine j_locals [0, 1, 2, 3] rfl ?_
        exact ih hlt _ (pgN_f3 hv (by simp [*]))
      · refine j_iconst B (v := 1) dX3_has_44 (by decide) ?_
        refine j_goto B 49 dX3_has_45 (by decide) ?_
        refine j_iadd B dX3_has_49 ?_
        refine j_istore_n B (L' := [(2, .int (x + 1)), (3, .int (nI i)), (1, .int k0), (0, .ref (md 0))]) dX3_has_50 rfl (by decide) rfl ?_
        refine j_iinc B (v := nI (i + 1)) (L' := [(3, .int (nI (i + 1))), (2, .int (x + 1)), (1, .int k0), (0, .ref (md 0))]) dX3_has_51 1 rfl (nI_1 i) (by decide) rfl ?_
        refine j_goto B 25 dX3_has_54 (by decide) ?_
        refine j_locals [0, 1, 2, 3] rfl ?_
        exact ih hlt _ (pgN_t2 hv (by simp [*]))
  · obtain rfl : r1 = 0 := by rw [hp2]; exact if_neg h3
    refine j_if_eq B 12 dX3_has_5 (by decide) (fun h10 => ?_) (fun h10 => (absurd (by decide) h10))
    refine j_iconst B (v := 1) dX3_has_12 (by decide) ?_
    refine j_cVi B (S := Unit) 1 [.int 1] (WdC' := fun _ => pgM D cI cZ A σ ρ 1 md) (fun _ => pgM D cI cZ A σ ρ 1 md) (c_X3_can l D cD cC cI cZ cL A σ ρ th md 1) rfl (fun H h => pgM.m h) q_579 q_581 q_p6 q_3 q_582 hdX3_can rfl ⟨Nat.le_of_ble_eq_true rfl, Nat.le_of_ble_eq_true rfl⟩ (Nat.le_of_ble_eq_true rfl) dX3_has_13 rfl ⟨Nat.le_of_ble_eq_true rfl, Nat.le_of_ble_eq_true rfl⟩ (fun _ h => h) (fun _ _ _ _ h => h) (fun _ h => h) (fun _ _ _ _ h _ _ => h) (fun r11 _ hp12 => ?_)
    obtain rfl : r11 = 0 := by rw [hp12]; rfl
    refine j_if_ne B 21 dX3_has_16 (by decide) (fun h13 => (absurd (by decide) h13)) (fun h13 => ?_)
    refine j_iconst B (v := 0) dX3_has_19 (by decide) ?_
    have e9 : sp_has σ k0 = (1, 0, σ) := by
      simp only [sp_has]; grind
    exact j_iret B hr rfl dX3_has_20 (Nat.le_of_ble_eq_true rfl) (Nat.le_of_ble_eq_true rfl) () (by rw [e9]; exact fun h => absurd h (show ¬ (1 : Nat) = 0 by decide)) (fun H h => by rw [e9]; exact h)
set_option maxHeartbeats 4000000 in
set_option maxRecDepth 100000 in
/-- missing -/
theorem c_X3_missing (l : Launch) (D : va_G) (cD cC cI cZ cL : ClassId) (A : Nat → Prop) (σ : pgSt) (ρ : Nat → Int32) (th : Int32) (md : Nat → Nat) (n : Nat) (hI : pgI n σ) : Met l yX3_missing (.code yX3_missing cX3_missing 3 (some .int) :: pgWd) ({ frames := 0, cells := 0, slots := 0, locals := 0 } : Room) (pgPc D (pgTys cD cC cI cZ cL) A (pgM D cI cZ A σ ρ th md) [.ref (md 0)]) (va_Qi (fun (r : Int32) (_ : Unit) => r = pgMis σ) (fun _ t9 => pgM D cI cZ A σ ρ 0 md t9.heap) A) 0 0 A := by
  refine pg_enter (own := RX3) (by decide) rfl (Nat.le_of_ble_eq_true rfl) (fun p e s m below meth cc9 B hr hnm => ?_)
  refine j_fact (fun H h => pgM.inA h) (fun hIn => ?_)
  refine j_aload_n B dX3_missing_0 0 rfl rfl ?_
  refine j_iconst B (v := 0) dX3_missing_1 (by decide) ?_
  refine j_put B (Wd' := pgM D cI cZ A σ ρ 0 md) pgX3 tyX3 tyX3_ok nmX3 rfl (fun H h => pgM.m h) 18 (by decide) q_523 rfl rfl rfl rfl rfl (Nat.le_of_ble_eq_true rfl) dX3_missing_2 (hIn 0 (by omega)) (fun H H1 h hc hz ho => pgM.putT h pgMs18 hc ho) ?_
  refine j_iconst B (v := 0) dX3_missing_5 (by decide) ?_
  refine j_istore_n B (L' := [(1, .int 0), (0, .ref (md 0))]) dX3_missing_6 rfl (by decide) rfl ?_
  refine j_iconst B (v := 0) dX3_missing_7 (by decide) ?_
  refine j_istore_n B (L' := [(2, .int 0), (1, .int 0), (0, .ref (md 0))]) dX3_missing_8 rfl (by decide) rfl ?_
  refine j_locals [0, 1, 2] rfl ?_
  refine j_loop (N := n) (X := Int32) (fun i x => x = nI (pgN (fun j => decide (σ 5 j ≠ 0)) i)) (fun i x => pgM D cI cZ A σ ρ 0 md) (fun i x => [(2, .int (nI i)), (1, .int x), (0, .ref (md 0))]) (fun i x hi hv ih => ?_) 0 0 (by omega) rfl
  refine j_iload_n B dX3_missing_9 0 rfl rfl ?_
  refine j_aload_n B dX3_missing_10 2 rfl rfl ?_
  refine j_get B (v := .int (σ 13 0)) pgX3 rfl (fun H h => pgM.m h) 0 (by decide) q_505 rfl rfl dX3_missing_11 ?_
  refine j_icmp_ge B 40 dX3_missing_14 (by decide) (fun h1 => ?_) (fun h1 => ?_)
  · rw [hI.2.1] at h1
    obtain rfl := pg_eqN hi (by have := hI.1; omega) h1
    refine j_iload_n B dX3_missing_40 1 rfl rfl ?_
    exact j_iret B hr rfl dX3_missing_41 (Nat.le_of_ble_eq_true rfl) (Nat.le_of_ble_eq_true rfl) () (by rw [pgMis, pgI_n hI]; exact hv) (fun H h => h)
  · rw [hI.2.1] at h1
    have hlt := pg_ltN (N := n) (by have := hI.1; omega) hi h1
    refine j_iload_n B dX3_missing_17 1 rfl rfl ?_
    refine j_aload_n B dX3_missing_18 2 rfl rfl ?_
    refine j_get B (v := .ref (md 6)) pgX3 rfl (fun H h => pgM.m h) 6 (by decide) q_511 rfl rfl dX3_missing_19 ?_
    refine j_iload_n B dX3_missing_22 0 rfl rfl ?_
    refine j_zaldv B (fun H h => pgM.a6 h) 3 rfl (vp_in_nI (Nat.lt_of_lt_of_le hlt hI.1) (by omega)) (v := σ 5 i) (congrArg _ (nI_clamp (by have := hI.1; omega))) dX3_missing_23 ?_
    refine j_if_eq B 31 dX3_missing_24 (by decide) (fun h2 => ?_) (fun h2 => ?_)
    · refine j_iconst B (v := 0) dX3_missing_31 (by decide) ?_
      refine j_iadd B dX3_missing_32 ?_
      refine j_istore_n B (L' := [(1, .int (x + 0)), (2, .int (nI i)), (0, .ref (md 0))]) dX3_missing_33 rfl (by decide) rfl ?_
      refine j_iinc B (v := nI (i + 1)) (L' := [(2, .int (nI (i + 1))), (1, .int (x + 0)), (0, .ref (md 0))]) dX3_missing_34 1 rfl (nI_1 i) (by decide) rfl ?_
      refine j_goto B 9 dX3_missing_37 (by decide) ?_
      refine j_locals [0, 1, 2] rfl ?_
      exact ih hlt _ (pgN_f3 hv (by simp [*]))
    · refine j_iconst B (v := 1) dX3_missing_27 (by decide) ?_
      refine j_goto B 32 dX3_missing_28 (by decide) ?_
      refine j_iadd B dX3_missing_32 ?_
      refine j_istore_n B (L' := [(1, .int (x + 1)), (2, .int (nI i)), (0, .ref (md 0))]) dX3_missing_33 rfl (by decide) rfl ?_
      refine j_iinc B (v := nI (i + 1)) (L' := [(2, .int (nI (i + 1))), (1, .int (x + 1)), (0, .ref (md 0))]) dX3_missing_34 1 rfl (nI_1 i) (by decide) rfl ?_
      refine j_goto B 9 dX3_missing_37 (by decide) ?_
      refine j_locals [0, 1, 2] rfl ?_
      exact ih hlt _ (pgN_t2 hv (by simp [*]))
