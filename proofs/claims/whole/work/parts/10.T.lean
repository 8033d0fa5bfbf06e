theorem k_T_put {n t : Nat} {G : xG} {a b c x y z : Int64} (hG : G t = xT a b c) : xK mT_put [.ref t, .long x, .long y, .long z] n G 0 0 (qV n (va_up G t (xT x y z))) xNo := by
  refine xK_of2 (L0 := [(0, _), (1, _), (3, _), (5, _)]) (by decide +kernel) rfl (Nat.le_of_ble_eq_true rfl) rfl ?_
  refine xs_aload_n dT_put_0 rfl ?_
  refine xs_lload_n dT_put_1 rfl ?_
  refine xs_put dT_put_2 flT_7 ft5_0 (by first | assumption | exact va_up_self _ _ _ | exact (va_up_ne _ _ (by omega)).trans (by first | assumption | exact va_up_self _ _ _ | exact (va_up_ne _ _ (by omega)).trans (by first | assumption | exact va_up_self _ _ _ | exact (va_up_ne _ _ (by omega)).trans (by first | assumption | exact va_up_self _ _ _)))) (fun _ => rfl) (fun _ => rfl) (by simp) ?_
  refine xs_aload_n dT_put_5 rfl ?_
  refine xs_lload_n dT_put_6 rfl ?_
  refine xs_put dT_put_7 flT_13 ft5_1 (by first | assumption | exact va_up_self _ _ _ | exact (va_up_ne _ _ (by omega)).trans (by first | assumption | exact va_up_self _ _ _ | exact (va_up_ne _ _ (by omega)).trans (by first | assumption | exact va_up_self _ _ _ | exact (va_up_ne _ _ (by omega)).trans (by first | assumption | exact va_up_self _ _ _)))) (fun _ => rfl) (fun _ => rfl) (by simp) ?_
  refine xs_aload_n dT_put_10 rfl ?_
  refine xs_lload dT_put_11 rfl ?_
  refine xs_put dT_put_13 flT_16 ft5_2 (by first | assumption | exact va_up_self _ _ _ | exact (va_up_ne _ _ (by omega)).trans (by first | assumption | exact va_up_self _ _ _ | exact (va_up_ne _ _ (by omega)).trans (by first | assumption | exact va_up_self _ _ _ | exact (va_up_ne _ _ (by omega)).trans (by first | assumption | exact va_up_self _ _ _)))) (fun _ => rfl) (fun _ => rfl) (by simp) ?_
  exact xs_vret dT_put_16 rfl (by omega) (by omega) ⟨rfl, rfl, (by simp only [bx_uu]; rfl)⟩
theorem k_T_isZero {n t : Nat} {G : xG} {a b c : Int64} (hG : G t = xT a b c) : xK mT_isZero [.ref t] n G 0 0 (qI n G (bI (decide (a = 0 ∧ b = 0 ∧ c = 0)))) xNo := by
  refine xK_of2 (L0 := [(0, _)]) (by decide +kernel) rfl (Nat.le_of_ble_eq_true rfl) rfl ?_
  refine xs_aload_n dT_isZero_0 rfl ?_
  refine xs_get dT_isZero_1 flT_7 (by first | assumption | exact va_up_self _ _ _ | exact (va_up_ne _ _ (by omega)).trans (by first | assumption | exact va_up_self _ _ _ | exact (va_up_ne _ _ (by omega)).trans (by first | assumption | exact va_up_self _ _ _ | exact (va_up_ne _ _ (by omega)).trans (by first | assumption | exact va_up_self _ _ _)))) rfl ?_
  refine xs_lconst (v := 0) dT_isZero_4 (by decide) ?_
  refine xs_lc_ne dT_isZero_5 dT_isZero_6 (fun h5 => ?_) (fun h5 => ?_)
  · refine xs_iconst (v := 0) dT_isZero_31 (by decide) ?_
    exact xs_iret dT_isZero_32 rfl rfl (by omega) (by omega) ⟨(by simp [bI, *]), rfl, rfl⟩
  refine xs_aload_n dT_isZero_9 rfl ?_
  refine xs_get dT_isZero_10 flT_13 (by first | assumption | exact va_up_self _ _ _ | exact (va_up_ne _ _ (by omega)).trans (by first | assumption | exact va_up_self _ _ _ | exact (va_up_ne _ _ (by omega)).trans (by first | assumption | exact va_up_self _ _ _ | exact (va_up_ne _ _ (by omega)).trans (by first | assumption | exact va_up_self _ _ _)))) rfl ?_
  refine xs_lconst (v := 0) dT_isZero_13 (by decide) ?_
  refine xs_lc_ne dT_isZero_14 dT_isZero_15 (fun h14 => ?_) (fun h14 => ?_)
  · refine xs_iconst (v := 0) dT_isZero_31 (by decide) ?_
    exact xs_iret dT_isZero_32 rfl rfl (by omega) (by omega) ⟨(by simp [bI, *]), rfl, rfl⟩
  refine xs_aload_n dT_isZero_18 rfl ?_
  refine xs_get dT_isZero_19 flT_16 (by first | assumption | exact va_up_self _ _ _ | exact (va_up_ne _ _ (by omega)).trans (by first | assumption | exact va_up_self _ _ _ | exact (va_up_ne _ _ (by omega)).trans (by first | assumption | exact va_up_self _ _ _ | exact (va_up_ne _ _ (by omega)).trans (by first | assumption | exact va_up_self _ _ _)))) rfl ?_
  refine xs_lconst (v := 0) dT_isZero_22 (by decide) ?_
  refine xs_lc_ne dT_isZero_23 dT_isZero_24 (fun h23 => ?_) (fun h23 => ?_)
  · refine xs_iconst (v := 0) dT_isZero_31 (by decide) ?_
    exact xs_iret dT_isZero_32 rfl rfl (by omega) (by omega) ⟨(by simp [bI, *]), rfl, rfl⟩
  refine xs_iconst (v := 1) dT_isZero_27 (by decide) ?_
  refine xs_goto dT_isZero_28 ?_
  exact xs_iret dT_isZero_32 rfl rfl (by omega) (by omega) ⟨(by simp [bI, *]), rfl, rfl⟩
theorem k_T_dot {n t u : Nat} {G : xG} {a b c x y z : Int64} (hG : G t = xT a b c) (hH : G u = xT x y z) : xK mT_dot [.ref t, .ref u] n G 0 0 (qL n G (a * x + b * y + c * z)) xNo := by
  refine xK_of2 (L0 := [(0, _), (1, _)]) (by decide +kernel) rfl (Nat.le_of_ble_eq_true rfl) rfl ?_
  refine xs_aload_n dT_dot_0 rfl ?_
  refine xs_get dT_dot_1 flT_7 (by first | assumption | exact va_up_self _ _ _ | exact (va_up_ne _ _ (by omega)).trans (by first | assumption | exact va_up_self _ _ _ | exact (va_up_ne _ _ (by omega)).trans (by first | assumption | exact va_up_self _ _ _ | exact (va_up_ne _ _ (by omega)).trans (by first | assumption | exact va_up_self _ _ _)))) rfl ?_
  refine xs_aload_n dT_dot_4 rfl ?_
  refine xs_get dT_dot_5 flT_7 (by first | assumption | exact va_up_self _ _ _ | exact (va_up_ne _ _ (by omega)).trans (by first | assumption | exact va_up_self _ _ _ | exact (va_up_ne _ _ (by omega)).trans (by first | assumption | exact va_up_self _ _ _ | exact (va_up_ne _ _ (by omega)).trans (by first | assumption | exact va_up_self _ _ _)))) rfl ?_
  refine xs_lmul dT_dot_8 ?_
  refine xs_aload_n dT_dot_9 rfl ?_
  refine xs_get dT_dot_10 flT_13 (by first | assumption | exact va_up_self _ _ _ | exact (va_up_ne _ _ (by omega)).trans (by first | assumption | exact va_up_self _ _ _ | exact (va_up_ne _ _ (by omega)).trans (by first | assumption | exact va_up_self _ _ _ | exact (va_up_ne _ _ (by omega)).trans (by first | assumption | exact va_up_self _ _ _)))) rfl ?_
  refine xs_aload_n dT_dot_13 rfl ?_
  refine xs_get dT_dot_14 flT_13 (by first | assumption | exact va_up_self _ _ _ | exact (va_up_ne _ _ (by omega)).trans (by first | assumption | exact va_up_self _ _ _ | exact (va_up_ne _ _ (by omega)).trans (by first | assumption | exact va_up_self _ _ _ | exact (va_up_ne _ _ (by omega)).trans (by first | assumption | exact va_up_self _ _ _)))) rfl ?_
  refine xs_lmul dT_dot_17 ?_
  refine xs_ladd dT_dot_18 ?_
  refine xs_aload_n dT_dot_19 rfl ?_
  refine xs_get dT_dot_20 flT_16 (by first | assumption | exact va_up_self _ _ _ | exact (va_up_ne _ _ (by omega)).trans (by first | assumption | exact va_up_self _ _ _ | exact (va_up_ne _ _ (by omega)).trans (by first | assumption | exact va_up_self _ _ _ | exact (va_up_ne _ _ (by omega)).trans (by first | assumption | exact va_up_self _ _ _)))) rfl ?_
  refine xs_aload_n dT_dot_23 rfl ?_
  refine xs_get dT_dot_24 flT_16 (by first | assumption | exact va_up_self _ _ _ | exact (va_up_ne _ _ (by omega)).trans (by first | assumption | exact va_up_self _ _ _ | exact (va_up_ne _ _ (by omega)).trans (by first | assumption | exact va_up_self _ _ _ | exact (va_up_ne _ _ (by omega)).trans (by first | assumption | exact va_up_self _ _ _)))) rfl ?_
  refine xs_lmul dT_dot_27 ?_
  refine xs_ladd dT_dot_28 ?_
  exact xs_lret dT_dot_29 rfl (by omega) (by omega) ⟨rfl, rfl, rfl⟩
theorem k_T_copyFrom {n t u : Nat} {G : xG} {a b c x y z : Int64} (hG : G t = xT a b c) (hH : G u = xT x y z) : xK mT_copyFrom [.ref t, .ref u] n G 0 0 (qV n (va_up G t (xT x y z))) xNo := by
  refine xK_of2 (L0 := [(0, _), (1, _)]) (by decide +kernel) rfl (Nat.le_of_ble_eq_true rfl) rfl ?_
  refine xs_aload_n dT_copyFrom_0 rfl ?_
  refine xs_aload_n dT_copyFrom_1 rfl ?_
  refine xs_get dT_copyFrom_2 flT_7 (by first | assumption | exact va_up_self _ _ _ | exact (va_up_ne _ _ (by omega)).trans (by first | assumption | exact va_up_self _ _ _ | exact (va_up_ne _ _ (by omega)).trans (by first | assumption | exact va_up_self _ _ _ | exact (va_up_ne _ _ (by omega)).trans (by first | assumption | exact va_up_self _ _ _)))) rfl ?_
  refine xs_aload_n dT_copyFrom_5 rfl ?_
  refine xs_get dT_copyFrom_6 flT_13 (by first | assumption | exact va_up_self _ _ _ | exact (va_up_ne _ _ (by omega)).trans (by first | assumption | exact va_up_self _ _ _ | exact (va_up_ne _ _ (by omega)).trans (by first | assumption | exact va_up_self _ _ _ | exact (va_up_ne _ _ (by omega)).trans (by first | assumption | exact va_up_self _ _ _)))) rfl ?_
  refine xs_aload_n dT_copyFrom_9 rfl ?_
  refine xs_get dT_copyFrom_10 flT_16 (by first | assumption | exact va_up_self _ _ _ | exact (va_up_ne _ _ (by omega)).trans (by first | assumption | exact va_up_self _ _ _ | exact (va_up_ne _ _ (by omega)).trans (by first | assumption | exact va_up_self _ _ _ | exact (va_up_ne _ _ (by omega)).trans (by first | assumption | exact va_up_self _ _ _)))) rfl ?_
  refine xs_cV_v (As := [_, _, _]) dT_copyFrom_13 lkT_19 (by first | assumption | exact va_up_self _ _ _ | exact (va_up_ne _ _ (by omega)).trans (by first | assumption | exact va_up_self _ _ _ | exact (va_up_ne _ _ (by omega)).trans (by first | assumption | exact va_up_self _ _ _ | exact (va_up_ne _ _ (by omega)).trans (by first | assumption | exact va_up_self _ _ _)))) (k_T_put hG) rfl rfl (Nat.le_of_ble_eq_true rfl) ⟨by decide, by decide⟩ ⟨by omega, by omega⟩ ?_
  exact xs_vret dT_copyFrom_16 rfl (by omega) (by omega) ⟨rfl, rfl, rfl⟩
theorem k_T_putCross {n t u v : Nat} {G : xG} {a b c x y z p q r : Int64} (hG : G t = xT a b c) (hH : G u = xT x y z) (hI : G v = xT p q r) : xK mT_putCross [.ref t, .ref u, .ref v] n G 0 0 (qV n (va_up G t (xT (y * r - z * q) (z * p - x * r) (x * q - y * p)))) xNo := by
  refine xK_of2 (L0 := [(0, _), (1, _), (2, _)]) (by decide +kernel) rfl (Nat.le_of_ble_eq_true rfl) rfl ?_
  refine xs_aload_n dT_putCross_0 rfl ?_
  refine xs_aload_n dT_putCross_1 rfl ?_
  refine xs_get dT_putCross_2 flT_13 (by first | assumption | exact va_up_self _ _ _ | exact (va_up_ne _ _ (by omega)).trans (by first | assumption | exact va_up_self _ _ _ | exact (va_up_ne _ _ (by omega)).trans (by first | assumption | exact va_up_self _ _ _ | exact (va_up_ne _ _ (by omega)).trans (by first | assumption | exact va_up_self _ _ _)))) rfl ?_
  refine xs_aload_n dT_putCross_5 rfl ?_
  refine xs_get dT_putCross_6 flT_16 (by first | assumption | exact va_up_self _ _ _ | exact (va_up_ne _ _ (by omega)).trans (by first | assumption | exact va_up_self _ _ _ | exact (va_up_ne _ _ (by omega)).trans (by first | assumption | exact va_up_self _ _ _ | exact (va_up_ne _ _ (by omega)).trans (by first | assumption | exact va_up_self _ _ _)))) rfl ?_
  refine xs_lmul dT_putCross_9 ?_
  refine xs_aload_n dT_putCross_10 rfl ?_
  refine xs_get dT_putCross_11 flT_16 (by first | assumption | exact va_up_self _ _ _ | exact (va_up_ne _ _ (by omega)).trans (by first | assumption | exact va_up_self _ _ _ | exact (va_up_ne _ _ (by omega)).trans (by first | assumption | exact va_up_self _ _ _ | exact (va_up_ne _ _ (by omega)).trans (by first | assumption | exact va_up_self _ _ _)))) rfl ?_
  refine xs_aload_n dT_putCross_14 rfl ?_
  refine xs_get dT_putCross_15 flT_13 (by first | assumption | exact va_up_self _ _ _ | exact (va_up_ne _ _ (by omega)).trans (by first | assumption | exact va_up_self _ _ _ | exact (va_up_ne _ _ (by omega)).trans (by first | assumption | exact va_up_self _ _ _ | exact (va_up_ne _ _ (by omega)).trans (by first | assumption | exact va_up_self _ _ _)))) rfl ?_
  refine xs_lmul dT_putCross_18 ?_
  refine xs_lsub dT_putCross_19 ?_
  refine xs_aload_n dT_putCross_20 rfl ?_
  refine xs_get dT_putCross_21 flT_16 (by first | assumption | exact va_up_self _ _ _ | exact (va_up_ne _ _ (by omega)).trans (by first | assumption | exact va_up_self _ _ _ | exact (va_up_ne _ _ (by omega)).trans (by first | assumption | exact va_up_self _ _ _ | exact (va_up_ne _ _ (by omega)).trans (by first | assumption | exact va_up_self _ _ _)))) rfl ?_
  refine xs_aload_n dT_putCross_24 rfl ?_
  refine xs_get dT_putCross_25 flT_7 (by first | assumption | exact va_up_self _ _ _ | exact (va_up_ne _ _ (by omega)).trans (by first | assumption | exact va_up_self _ _ _ | exact (va_up_ne _ _ (by omega)).trans (by first | assumption | exact va_up_self _ _ _ | exact (va_up_ne _ _ (by omega)).trans (by first | assumption | exact va_up_self _ _ _)))) rfl ?_
  refine xs_lmul dT_putCross_28 ?_
  refine xs_aload_n dT_putCross_29 rfl ?_
  refine xs_get dT_putCross_30 flT_7 (by first | assumption | exact va_up_self _ _ _ | exact (va_up_ne _ _ (by omega)).trans (by first | assumption | exact va_up_self _ _ _ | exact (va_up_ne _ _ (by omega)).trans (by first | assumption | exact va_up_self _ _ _ | exact (va_up_ne _ _ (by omega)).trans (by first | assumption | exact va_up_self _ _ _)))) rfl ?_
  refine xs_aload_n dT_putCross_33 rfl ?_
  refine xs_get dT_putCross_34 flT_16 (by first | assumption | exact va_up_self _ _ _ | exact (va_up_ne _ _ (by omega)).trans (by first | assumption | exact va_up_self _ _ _ | exact (va_up_ne _ _ (by omega)).trans (by first | assumption | exact va_up_self _ _ _ | exact (va_up_ne _ _ (by omega)).trans (by first | assumption | exact va_up_self _ _ _)))) rfl ?_
  refine xs_lmul dT_putCross_37 ?_
  refine xs_lsub dT_putCross_38 ?_
  refine xs_aload_n dT_putCross_39 rfl ?_
  refine xs_get dT_putCross_40 flT_7 (by first | assumption | exact va_up_self _ _ _ | exact (va_up_ne _ _ (by omega)).trans (by first | assumption | exact va_up_self _ _ _ | exact (va_up_ne _ _ (by omega)).trans (by first | assumption | exact va_up_self _ _ _ | exact (va_up_ne _ _ (by omega)).trans (by first | assumption | exact va_up_self _ _ _)))) rfl ?_
  refine xs_aload_n dT_putCross_43 rfl ?_
  refine xs_get dT_putCross_44 flT_13 (by first | assumption | exact va_up_self _ _ _ | exact (va_up_ne _ _ (by omega)).trans (by first | assumption | exact va_up_self _ _ _ | exact (va_up_ne _ _ (by omega)).trans (by first | assumption | exact va_up_self _ _ _ | exact (va_up_ne _ _ (by omega)).trans (by first | assumption | exact va_up_self _ _ _)))) rfl ?_
  refine xs_lmul dT_putCross_47 ?_
  refine xs_aload_n dT_putCross_48 rfl ?_
  refine xs_get dT_putCross_49 flT_13 (by first | assumption | exact va_up_self _ _ _ | exact (va_up_ne _ _ (by omega)).trans (by first | assumption | exact va_up_self _ _ _ | exact (va_up_ne _ _ (by omega)).trans (by first | assumption | exact va_up_self _ _ _ | exact (va_up_ne _ _ (by omega)).trans (by first | assumption | exact va_up_self _ _ _)))) rfl ?_
  refine xs_aload_n dT_putCross_52 rfl ?_
  refine xs_get dT_putCross_53 flT_7 (by first | assumption | exact va_up_self _ _ _ | exact (va_up_ne _ _ (by omega)).trans (by first | assumption | exact va_up_self _ _ _ | exact (va_up_ne _ _ (by omega)).trans (by first | assumption | exact va_up_self _ _ _ | exact (va_up_ne _ _ (by omega)).trans (by first | assumption | exact va_up_self _ _ _)))) rfl ?_
  refine xs_lmul dT_putCross_56 ?_
  refine xs_lsub dT_putCross_57 ?_
  refine xs_cV_v (As := [_, _, _]) dT_putCross_58 lkT_19 (by first | assumption | exact va_up_self _ _ _ | exact (va_up_ne _ _ (by omega)).trans (by first | assumption | exact va_up_self _ _ _ | exact (va_up_ne _ _ (by omega)).trans (by first | assumption | exact va_up_self _ _ _ | exact (va_up_ne _ _ (by omega)).trans (by first | assumption | exact va_up_self _ _ _)))) (k_T_put hG) rfl rfl (Nat.le_of_ble_eq_true rfl) ⟨by decide, by decide⟩ ⟨by omega, by omega⟩ ?_
  exact xs_vret dT_putCross_61 rfl (by omega) (by omega) ⟨rfl, rfl, rfl⟩
theorem k_T_isSameAs {n t u : Nat} {G : xG} {a b c x y z : Int64} (hG : G t = xT a b c) (hH : G u = xT x y z) : xK mT_isSameAs [.ref t, .ref u] n G 0 0 (qI n G (bI (decide (a = x ∧ b = y ∧ c = z)))) xNo := by
  refine xK_of2 (L0 := [(0, _), (1, _)]) (by decide +kernel) rfl (Nat.le_of_ble_eq_true rfl) rfl ?_
  refine xs_aload_n dT_isSameAs_0 rfl ?_
  refine xs_get dT_isSameAs_1 flT_7 (by first | assumption | exact va_up_self _ _ _ | exact (va_up_ne _ _ (by omega)).trans (by first | assumption | exact va_up_self _ _ _ | exact (va_up_ne _ _ (by omega)).trans (by first | assumption | exact va_up_self _ _ _ | exact (va_up_ne _ _ (by omega)).trans (by first | assumption | exact va_up_self _ _ _)))) rfl ?_
  refine xs_aload_n dT_isSameAs_4 rfl ?_
  refine xs_get dT_isSameAs_5 flT_7 (by first | assumption | exact va_up_self _ _ _ | exact (va_up_ne _ _ (by omega)).trans (by first | assumption | exact va_up_self _ _ _ | exact (va_up_ne _ _ (by omega)).trans (by first | assumption | exact va_up_self _ _ _ | exact (va_up_ne _ _ (by omega)).trans (by first | assumption | exact va_up_self _ _ _)))) rfl ?_
  refine xs_lc_ne dT_isSameAs_8 dT_isSameAs_9 (fun h8 => ?_) (fun h8 => ?_)
  · refine xs_iconst (v := 0) dT_isSameAs_40 (by decide) ?_
    exact xs_iret dT_isSameAs_41 rfl rfl (by omega) (by omega) ⟨(by simp [bI, *]), rfl, rfl⟩
  refine xs_aload_n dT_isSameAs_12 rfl ?_
  refine xs_get dT_isSameAs_13 flT_13 (by first | assumption | exact va_up_self _ _ _ | exact (va_up_ne _ _ (by omega)).trans (by first | assumption | exact va_up_self _ _ _ | exact (va_up_ne _ _ (by omega)).trans (by first | assumption | exact va_up_self _ _ _ | exact (va_up_ne _ _ (by omega)).trans (by first | assumption | exact va_up_self _ _ _)))) rfl ?_
  refine xs_aload_n dT_isSameAs_16 rfl ?_
  refine xs_get dT_isSameAs_17 flT_13 (by first | assumption | exact va_up_self _ _ _ | exact (va_up_ne _ _ (by omega)).trans (by first | assumption | exact va_up_self _ _ _ | exact (va_up_ne _ _ (by omega)).trans (by first | assumption | exact va_up_self _ _ _ | exact (va_up_ne _ _ (by omega)).trans (by first | assumption | exact va_up_self _ _ _)))) rfl ?_
  refine xs_lc_ne dT_isSameAs_20 dT_isSameAs_21 (fun h20 => ?_) (fun h20 => ?_)
  · refine xs_iconst (v := 0) dT_isSameAs_40 (by decide) ?_
    exact xs_iret dT_isSameAs_41 rfl rfl (by omega) (by omega) ⟨(by simp [bI, *]), rfl, rfl⟩
  refine xs_aload_n dT_isSameAs_24 rfl ?_
  refine xs_get dT_isSameAs_25 flT_16 (by first | assumption | exact va_up_self _ _ _ | exact (va_up_ne _ _ (by omega)).trans (by first | assumption | exact va_up_self _ _ _ | exact (va_up_ne _ _ (by omega)).trans (by first | assumption | exact va_up_self _ _ _ | exact (va_up_ne _ _ (by omega)).trans (by first | assumption | exact va_up_self _ _ _)))) rfl ?_
  refine xs_aload_n dT_isSameAs_28 rfl ?_
  refine xs_get dT_isSameAs_29 flT_16 (by first | assumption | exact va_up_self _ _ _ | exact (va_up_ne _ _ (by omega)).trans (by first | assumption | exact va_up_self _ _ _ | exact (va_up_ne _ _ (by omega)).trans (by first | assumption | exact va_up_self _ _ _ | exact (va_up_ne _ _ (by omega)).trans (by first | assumption | exact va_up_self _ _ _)))) rfl ?_
  refine xs_lc_ne dT_isSameAs_32 dT_isSameAs_33 (fun h32 => ?_) (fun h32 => ?_)
  · refine xs_iconst (v := 0) dT_isSameAs_40 (by decide) ?_
    exact xs_iret dT_isSameAs_41 rfl rfl (by omega) (by omega) ⟨(by simp [bI, *]), rfl, rfl⟩
  refine xs_iconst (v := 1) dT_isSameAs_36 (by decide) ?_
  refine xs_goto dT_isSameAs_37 ?_
  exact xs_iret dT_isSameAs_41 rfl rfl (by omega) (by omega) ⟨(by simp [bI, *]), rfl, rfl⟩
theorem k_T_leadsPositive {n t : Nat} {G : xG} {a b c : Int64} (hG : G t = xT a b c) : xK mT_leadsPositive [.ref t] n G 0 0 (qI n G (bI (decide (if a ≠ 0 then 0 < a else if b ≠ 0 then 0 < b else 0 < c)))) xNo := by
  refine xK_of2 (L0 := [(0, _)]) (by decide +kernel) rfl (Nat.le_of_ble_eq_true rfl) rfl ?_
  refine xs_aload_n dT_leadsPositive_0 rfl ?_
  refine xs_get dT_leadsPositive_1 flT_7 (by first | assumption | exact va_up_self _ _ _ | exact (va_up_ne _ _ (by omega)).trans (by first | assumption | exact va_up_self _ _ _ | exact (va_up_ne _ _ (by omega)).trans (by first | assumption | exact va_up_self _ _ _ | exact (va_up_ne _ _ (by omega)).trans (by first | assumption | exact va_up_self _ _ _)))) rfl ?_
  refine xs_lconst (v := 0) dT_leadsPositive_4 (by decide) ?_
  refine xs_lc_eq dT_leadsPositive_5 dT_leadsPositive_6 (fun h5 => ?_) (fun h5 => ?_)
  · refine xs_aload_n dT_leadsPositive_26 rfl ?_
    refine xs_get dT_leadsPositive_27 flT_13 (by first | assumption | exact va_up_self _ _ _ | exact (va_up_ne _ _ (by omega)).trans (by first | assumption | exact va_up_self _ _ _ | exact (va_up_ne _ _ (by omega)).trans (by first | assumption | exact va_up_self _ _ _ | exact (va_up_ne _ _ (by omega)).trans (by first | assumption | exact va_up_self _ _ _)))) rfl ?_
    refine xs_lconst (v := 0) dT_leadsPositive_30 (by decide) ?_
    refine xs_lc_eq dT_leadsPositive_31 dT_leadsPositive_32 (fun h31 => ?_) (fun h31 => ?_)
    · refine xs_aload_n dT_leadsPositive_52 rfl ?_
      refine xs_get dT_leadsPositive_53 flT_16 (by first | assumption | exact va_up_self _ _ _ | exact (va_up_ne _ _ (by omega)).trans (by first | assumption | exact va_up_self _ _ _ | exact (va_up_ne _ _ (by omega)).trans (by first | assumption | exact va_up_self _ _ _ | exact (va_up_ne _ _ (by omega)).trans (by first | assumption | exact va_up_self _ _ _)))) rfl ?_
      refine xs_lconst (v := 0) dT_leadsPositive_56 (by decide) ?_
      refine xs_lc_le dT_leadsPositive_57 dT_leadsPositive_58 (fun h57 => ?_) (fun h57 => ?_)
      · refine xs_iconst (v := 0) dT_leadsPositive_65 (by decide) ?_
        exact xs_iret dT_leadsPositive_66 rfl rfl (by omega) (by omega) ⟨(by simp [bI, *]), rfl, rfl⟩
      refine xs_iconst (v := 1) dT_leadsPositive_61 (by decide) ?_
      refine xs_goto dT_leadsPositive_62 ?_
      exact xs_iret dT_leadsPositive_66 rfl rfl (by omega) (by omega) ⟨(by simp [bI, *]), rfl, rfl⟩
    refine xs_aload_n dT_leadsPositive_35 rfl ?_
    refine xs_get dT_leadsPositive_36 flT_13 (by first | assumption | exact va_up_self _ _ _ | exact (va_up_ne _ _ (by omega)).trans (by first | assumption | exact va_up_self _ _ _ | exact (va_up_ne _ _ (by omega)).trans (by first | assumption | exact va_up_self _ _ _ | exact (va_up_ne _ _ (by omega)).trans (by first | assumption | exact va_up_self _ _ _)))) rfl ?_
    refine xs_lconst (v := 0) dT_leadsPositive_39 (by decide) ?_
    refine xs_lc_le dT_leadsPositive_40 dT_leadsPositive_41 (fun h40 => ?_) (fun h40 => ?_)
    · refine xs_iconst (v := 0) dT_leadsPositive_48 (by decide) ?_
      refine xs_goto dT_leadsPositive_49 ?_
      exact xs_iret dT_leadsPositive_66 rfl rfl (by omega) (by omega) ⟨(by simp [bI, *]), rfl, rfl⟩
    refine xs_iconst (v := 1) dT_leadsPositive_44 (by decide) ?_
    refine xs_goto dT_leadsPositive_45 ?_
    exact xs_iret dT_leadsPositive_66 rfl rfl (by omega) (by omega) ⟨(by simp [bI, *]), rfl, rfl⟩
  refine xs_aload_n dT_leadsPositive_9 rfl ?_
  refine xs_get dT_leadsPositive_10 flT_7 (by first | assumption | exact va_up_self _ _ _ | exact (va_up_ne _ _ (by omega)).trans (by first | assumption | exact va_up_self _ _ _ | exact (va_up_ne _ _ (by omega)).trans (by first | assumption | exact va_up_self _ _ _ | exact (va_up_ne _ _ (by omega)).trans (by first | assumption | exact va_up_self _ _ _)))) rfl ?_
  refine xs_lconst (v := 0) dT_leadsPositive_13 (by decide) ?_
  refine xs_lc_le dT_leadsPositive_14 dT_leadsPositive_15 (fun h14 => ?_) (fun h14 => ?_)
  · refine xs_iconst (v := 0) dT_leadsPositive_22 (by decide) ?_
    refine xs_goto dT_leadsPositive_23 ?_
    exact xs_iret dT_leadsPositive_66 rfl rfl (by omega) (by omega) ⟨(by simp [bI, *]), rfl, rfl⟩
  refine xs_iconst (v := 1) dT_leadsPositive_18 (by decide) ?_
  refine xs_goto dT_leadsPositive_19 ?_
  exact xs_iret dT_leadsPositive_66 rfl rfl (by omega) (by omega) ⟨(by simp [bI, *]), rfl, rfl⟩
theorem k_T_divideBy {n t : Nat} {G : xG} {a b c d : Int64} (hG : G t = xT a b c) (hd : ¬ d = 0) : xK mT_divideBy [.ref t, .long d] n G 0 0 (qV n (va_up G t (xT (a / d) (b / d) (c / d)))) xNo := by
  refine xK_of2 (L0 := [(0, _), (1, _)]) (by decide +kernel) rfl (Nat.le_of_ble_eq_true rfl) rfl ?_
  refine xs_lload_n dT_divideBy_0 rfl ?_
  refine xs_lconst (v := 0) dT_divideBy_1 (by decide) ?_
  refine xs_lc_eq dT_divideBy_2 dT_divideBy_3 (fun h => absurd h hd) (fun _ => ?_)
  refine xs_aload_n dT_divideBy_6 rfl ?_
  refine xs_dup dT_divideBy_7 rfl ?_
  refine xs_get dT_divideBy_8 flT_7 (by first | assumption | exact va_up_self _ _ _ | exact (va_up_ne _ _ (by omega)).trans (by first | assumption | exact va_up_self _ _ _ | exact (va_up_ne _ _ (by omega)).trans (by first | assumption | exact va_up_self _ _ _ | exact (va_up_ne _ _ (by omega)).trans (by first | assumption | exact va_up_self _ _ _)))) rfl ?_
  refine xs_lload_n dT_divideBy_11 rfl ?_
  refine xs_ldiv dT_divideBy_12 hd ?_
  refine xs_put dT_divideBy_13 flT_7 ft5_0 (by first | assumption | exact va_up_self _ _ _ | exact (va_up_ne _ _ (by omega)).trans (by first | assumption | exact va_up_self _ _ _ | exact (va_up_ne _ _ (by omega)).trans (by first | assumption | exact va_up_self _ _ _ | exact (va_up_ne _ _ (by omega)).trans (by first | assumption | exact va_up_self _ _ _)))) (fun _ => rfl) (fun _ => rfl) (by simp) ?_
  refine xs_aload_n dT_divideBy_16 rfl ?_
  refine xs_dup dT_divideBy_17 rfl ?_
  refine xs_get dT_divideBy_18 flT_13 (by first | assumption | exact va_up_self _ _ _ | exact (va_up_ne _ _ (by omega)).trans (by first | assumption | exact va_up_self _ _ _ | exact (va_up_ne _ _ (by omega)).trans (by first | assumption | exact va_up_self _ _ _ | exact (va_up_ne _ _ (by omega)).trans (by first | assumption | exact va_up_self _ _ _)))) rfl ?_
  refine xs_lload_n dT_divideBy_21 rfl ?_
  refine xs_ldiv dT_divideBy_22 hd ?_
  refine xs_put dT_divideBy_23 flT_13 ft5_1 (by first | assumption | exact va_up_self _ _ _ | exact (va_up_ne _ _ (by omega)).trans (by first | assumption | exact va_up_self _ _ _ | exact (va_up_ne _ _ (by omega)).trans (by first | assumption | exact va_up_self _ _ _ | exact (va_up_ne _ _ (by omega)).trans (by first | assumption | exact va_up_self _ _ _)))) (fun _ => rfl) (fun _ => rfl) (by simp) ?_
  refine xs_aload_n dT_divideBy_26 rfl ?_
  refine xs_dup dT_divideBy_27 rfl ?_
  refine xs_get dT_divideBy_28 flT_16 (by first | assumption | exact va_up_self _ _ _ | exact (va_up_ne _ _ (by omega)).trans (by first | assumption | exact va_up_self _ _ _ | exact (va_up_ne _ _ (by omega)).trans (by first | assumption | exact va_up_self _ _ _ | exact (va_up_ne _ _ (by omega)).trans (by first | assumption | exact va_up_self _ _ _)))) rfl ?_
  refine xs_lload_n dT_divideBy_31 rfl ?_
  refine xs_ldiv dT_divideBy_32 hd ?_
  refine xs_put dT_divideBy_33 flT_16 ft5_2 (by first | assumption | exact va_up_self _ _ _ | exact (va_up_ne _ _ (by omega)).trans (by first | assumption | exact va_up_self _ _ _ | exact (va_up_ne _ _ (by omega)).trans (by first | assumption | exact va_up_self _ _ _ | exact (va_up_ne _ _ (by omega)).trans (by first | assumption | exact va_up_self _ _ _)))) (fun _ => rfl) (fun _ => rfl) (by simp) ?_
  exact xs_vret dT_divideBy_36 rfl (by omega) (by omega) ⟨rfl, rfl, (by simp only [bx_uu]; rfl)⟩
theorem k_T_divideBy0 {n t : Nat} {G : xG} {a b c : Int64} (hG : G t = xT a b c) : xK mT_divideBy [.ref t, .long 0] n G 0 0 (qV n G) xNo := by
  refine xK_of2 (L0 := [(0, _), (1, _)]) (by decide +kernel) rfl (Nat.le_of_ble_eq_true rfl) rfl ?_
  refine xs_lload_n dT_divideBy_0 rfl ?_
  refine xs_lconst (v := 0) dT_divideBy_1 (by decide) ?_
  refine xs_lc_eq dT_divideBy_2 dT_divideBy_3 (fun _ => ?_) (fun h => absurd rfl h)
  exact xs_vret dT_divideBy_36 rfl (by omega) (by omega) ⟨rfl, rfl, rfl⟩
theorem k_T_isParallelTo {n t u : Nat} {G : xG} {a b c x y z : Int64} (hG : G t = xT a b c) (hH : G u = xT x y z) : xK mT_isParallelTo [.ref t, .ref u] n G 0 0 (qI n G (bI (decide ((a = x ∧ b = y ∧ c = z) ∨ (a = -x ∧ b = -y ∧ c = -z))))) xNo := by
  refine xK_of2 (L0 := [(0, _), (1, _)]) (by decide +kernel) rfl (Nat.le_of_ble_eq_true rfl) rfl ?_
  refine xs_aload_n dT_isParallelTo_0 rfl ?_
  refine xs_aload_n dT_isParallelTo_1 rfl ?_
  refine xs_cV_i (As := [_]) dT_isParallelTo_2 lkT_43 (by first | assumption | exact va_up_self _ _ _ | exact (va_up_ne _ _ (by omega)).trans (by first | assumption | exact va_up_self _ _ _ | exact (va_up_ne _ _ (by omega)).trans (by first | assumption | exact va_up_self _ _ _ | exact (va_up_ne _ _ (by omega)).trans (by first | assumption | exact va_up_self _ _ _)))) (k_T_isSameAs hG hH) rfl rfl (Nat.le_of_ble_eq_true rfl) ⟨by decide, by decide⟩ ⟨by omega, by omega⟩ ?_
  refine xs_if_ne dT_isParallelTo_5 (fun h => ?_) (fun h => ?_)
  · have h : decide (a = x ∧ b = y ∧ c = z) = true := by simpa [bI_0] using h
    refine xs_iconst (v := 1) dT_isParallelTo_47 (by decide) ?_
    refine xs_goto dT_isParallelTo_48 ?_
    exact xs_iret dT_isParallelTo_52 rfl rfl (by omega) (by omega) ⟨(by simp at h; simp [bI, h]), rfl, rfl⟩
  · have h : decide (a = x ∧ b = y ∧ c = z) = false := by simpa [bI_0] using h
    simp only [decide_eq_false_iff_not] at h
    refine xs_aload_n dT_isParallelTo_8 rfl ?_
    refine xs_get dT_isParallelTo_9 flT_7 (by first | assumption | exact va_up_self _ _ _ | exact (va_up_ne _ _ (by omega)).trans (by first | assumption | exact va_up_self _ _ _ | exact (va_up_ne _ _ (by omega)).trans (by first | assumption | exact va_up_self _ _ _ | exact (va_up_ne _ _ (by omega)).trans (by first | assumption | exact va_up_self _ _ _)))) rfl ?_
    refine xs_aload_n dT_isParallelTo_12 rfl ?_
    refine xs_get dT_isParallelTo_13 flT_7 (by first | assumption | exact va_up_self _ _ _ | exact (va_up_ne _ _ (by omega)).trans (by first | assumption | exact va_up_self _ _ _ | exact (va_up_ne _ _ (by omega)).trans (by first | assumption | exact va_up_self _ _ _ | exact (va_up_ne _ _ (by omega)).trans (by first | assumption | exact va_up_self _ _ _)))) rfl ?_
    refine xs_lneg dT_isParallelTo_16 ?_
    refine xs_lc_ne dT_isParallelTo_17 dT_isParallelTo_18 (fun h17 => ?_) (fun h17 => ?_)
    · refine xs_iconst (v := 0) dT_isParallelTo_51 (by decide) ?_
      exact xs_iret dT_isParallelTo_52 rfl rfl (by omega) (by omega) ⟨(by first | (rw [bI_t]; grind) | (rw [bI_f]; grind)), rfl, rfl⟩
    refine xs_aload_n dT_isParallelTo_21 rfl ?_
    refine xs_get dT_isParallelTo_22 flT_13 (by first | assumption | exact va_up_self _ _ _ | exact (va_up_ne _ _ (by omega)).trans (by first | assumption | exact va_up_self _ _ _ | exact (va_up_ne _ _ (by omega)).trans (by first | assumption | exact va_up_self _ _ _ | exact (va_up_ne _ _ (by omega)).trans (by first | assumption | exact va_up_self _ _ _)))) rfl ?_
    refine xs_aload_n dT_isParallelTo_25 rfl ?_
    refine xs_get dT_isParallelTo_26 flT_13 (by first | assumption | exact va_up_self _ _ _ | exact (va_up_ne _ _ (by omega)).trans (by first | assumption | exact va_up_self _ _ _ | exact (va_up_ne _ _ (by omega)).trans (by first | assumption | exact va_up_self _ _ _ | exact (va_up_ne _ _ (by omega)).trans (by first | assumption | exact va_up_self _ _ _)))) rfl ?_
    refine xs_lneg dT_isParallelTo_29 ?_
    refine xs_lc_ne dT_isParallelTo_30 dT_isParallelTo_31 (fun h30 => ?_) (fun h30 => ?_)
    · refine xs_iconst (v := 0) dT_isParallelTo_51 (by decide) ?_
      exact xs_iret dT_isParallelTo_52 rfl rfl (by omega) (by omega) ⟨(by first | (rw [bI_t]; grind) | (rw [bI_f]; grind)), rfl, rfl⟩
    refine xs_aload_n dT_isParallelTo_34 rfl ?_
    refine xs_get dT_isParallelTo_35 flT_16 (by first | assumption | exact va_up_self _ _ _ | exact (va_up_ne _ _ (by omega)).trans (by first | assumption | exact va_up_self _ _ _ | exact (va_up_ne _ _ (by omega)).trans (by first | assumption | exact va_up_self _ _ _ | exact (va_up_ne _ _ (by omega)).trans (by first | assumption | exact va_up_self _ _ _)))) rfl ?_
    refine xs_aload_n dT_isParallelTo_38 rfl ?_
    refine xs_get dT_isParallelTo_39 flT_16 (by first | assumption | exact va_up_self _ _ _ | exact (va_up_ne _ _ (by omega)).trans (by first | assumption | exact va_up_self _ _ _ | exact (va_up_ne _ _ (by omega)).trans (by first | assumption | exact va_up_self _ _ _ | exact (va_up_ne _ _ (by omega)).trans (by first | assumption | exact va_up_self _ _ _)))) rfl ?_
    refine xs_lneg dT_isParallelTo_42 ?_
    refine xs_lc_ne dT_isParallelTo_43 dT_isParallelTo_44 (fun h43 => ?_) (fun h43 => ?_)
    · refine xs_iconst (v := 0) dT_isParallelTo_51 (by decide) ?_
      exact xs_iret dT_isParallelTo_52 rfl rfl (by omega) (by omega) ⟨(by first | (rw [bI_t]; grind) | (rw [bI_f]; grind)), rfl, rfl⟩
    refine xs_iconst (v := 1) dT_isParallelTo_47 (by decide) ?_
    refine xs_goto dT_isParallelTo_48 ?_
    exact xs_iret dT_isParallelTo_52 rfl rfl (by omega) (by omega) ⟨(by first | (rw [bI_t]; grind) | (rw [bI_f]; grind)), rfl, rfl⟩
def ab (x : Int64) : Int64 := if 0 < x then x else -x
theorem k_T_sumOfSizes {n t : Nat} {G : xG} {a b c : Int64} (hG : G t = xT a b c) : xK mT_sumOfSizes [.ref t] n G 0 0 (qL n G (ab a + ab b + ab c)) xNo := by
  refine xK_of2 (L0 := [(0, _)]) (by decide +kernel) rfl (Nat.le_of_ble_eq_true rfl) rfl ?_
  refine xs_aload_n dT_sumOfSizes_0 rfl ?_
  refine xs_get dT_sumOfSizes_1 flT_7 (by first | assumption | exact va_up_self _ _ _ | exact (va_up_ne _ _ (by omega)).trans (by first | assumption | exact va_up_self _ _ _ | exact (va_up_ne _ _ (by omega)).trans (by first | assumption | exact va_up_self _ _ _ | exact (va_up_ne _ _ (by omega)).trans (by first | assumption | exact va_up_self _ _ _)))) rfl ?_
  refine xs_mabs dT_sumOfSizes_4 ljT_37 (Nat.le_of_ble_eq_true rfl) ⟨by decide, by decide⟩ ⟨by omega, by omega⟩ ?_
  refine xs_aload_n dT_sumOfSizes_7 rfl ?_
  refine xs_get dT_sumOfSizes_8 flT_13 (by first | assumption | exact va_up_self _ _ _ | exact (va_up_ne _ _ (by omega)).trans (by first | assumption | exact va_up_self _ _ _ | exact (va_up_ne _ _ (by omega)).trans (by first | assumption | exact va_up_self _ _ _ | exact (va_up_ne _ _ (by omega)).trans (by first | assumption | exact va_up_self _ _ _)))) rfl ?_
  refine xs_mabs dT_sumOfSizes_11 ljT_37 (Nat.le_of_ble_eq_true rfl) ⟨by decide, by decide⟩ ⟨by omega, by omega⟩ ?_
  refine xs_ladd dT_sumOfSizes_14 ?_
  refine xs_aload_n dT_sumOfSizes_15 rfl ?_
  refine xs_get dT_sumOfSizes_16 flT_16 (by first | assumption | exact va_up_self _ _ _ | exact (va_up_ne _ _ (by omega)).trans (by first | assumption | exact va_up_self _ _ _ | exact (va_up_ne _ _ (by omega)).trans (by first | assumption | exact va_up_self _ _ _ | exact (va_up_ne _ _ (by omega)).trans (by first | assumption | exact va_up_self _ _ _)))) rfl ?_
  refine xs_mabs dT_sumOfSizes_19 ljT_37 (Nat.le_of_ble_eq_true rfl) ⟨by decide, by decide⟩ ⟨by omega, by omega⟩ ?_
  refine xs_ladd dT_sumOfSizes_22 ?_
  exact xs_lret dT_sumOfSizes_23 rfl (by omega) (by omega) ⟨rfl, rfl, rfl⟩
theorem k_A_cd_loop {n n0 g : Nat} {G : xG} {v0 v2 : Int64} : ∀ (m s a b : Nat), 100 - s < m → s ≤ 100 → gI g s a b →
    xS mA_commonDivisor n0 0 0 (qL n G (lN g)) xNo 31 [(0, .long v0), (2, .long v2), (4, .long (lN a)), (6, .long (lN b)), (8, .int (nI s))] [] n G 0 0 := by
  intro m
  induction m with
  | zero => intro s a b h1 h2 h; exact absurd h1 (by omega)
  | succ m ih =>
    intro s a b h1 h2 h
    have hend : b = 0 → xS mA_commonDivisor n0 0 0 (qL n G (lN g)) xNo 66 [(0, .long v0), (2, .long v2), (4, .long (lN a)), (6, .long (lN b)), (8, .int (nI s))] [] n G 0 0 := by
      intro hb
      have hg : a = g := by rw [← h.1, hb, Nat.gcd_zero_right]
      refine xs_lload dA_commonDivisor_66 rfl ?_
      exact xs_lret dA_commonDivisor_68 rfl (by omega) (by omega) ⟨(by rw [hg]), rfl, rfl⟩
    refine xs_iload dA_commonDivisor_31 rfl ?_
    refine xs_bipush (v := 100) dA_commonDivisor_33 (by decide) ?_
    refine xs_icmp_ge dA_commonDivisor_35 (fun hge => ?_) (fun _ => ?_)
    · have h3 : 100 ≤ s := (nI_leI (a := 100) (by decide) (by omega)).mp hge
      have h4 : s = 100 := by omega
      subst h4
      exact hend (gI_100 h)
    refine xs_lload dA_commonDivisor_38 rfl ?_
    refine xs_lconst (v := 0) dA_commonDivisor_40 (by decide) ?_
    have hbb : b < 2 ^ 60 := h.2.1.2
    refine xs_lc_eq dA_commonDivisor_41 dA_commonDivisor_42 (fun h0 => ?_) (fun h0 => ?_)
    · exact hend ((pk_lEQ (a := b) (b := 0) (by omega) (by omega)).mp h0)
    have hb : b ≠ 0 := fun e => h0 (by rw [e]; rfl)
    refine xs_lload dA_commonDivisor_45 rfl ?_
    refine xs_lload dA_commonDivisor_47 rfl ?_
    refine xs_lrem dA_commonDivisor_49 h0 ?_
    refine xs_lstore (L2 := [(9, _), (0, _), (2, _), (4, _), (6, _), (8, _)]) dA_commonDivisor_50 (by decide) rfl ?_
    refine xs_lload dA_commonDivisor_52 rfl ?_
    refine xs_lstore (L2 := [(4, _), (9, _), (0, _), (2, _), (6, _), (8, _)]) dA_commonDivisor_54 (by decide) rfl ?_
    refine xs_lload dA_commonDivisor_56 rfl ?_
    refine xs_lstore (L2 := [(6, _), (4, _), (9, _), (0, _), (2, _), (8, _)]) dA_commonDivisor_58 (by decide) rfl ?_
    refine xs_iinc (L2 := [(8, _), (6, _), (4, _), (9, _), (0, _), (2, _)]) dA_commonDivisor_60 rfl rfl (by decide) rfl ?_
    refine xs_goto dA_commonDivisor_63 ?_
    refine xs_pick (L2 := [(0, _), (2, _), (4, _), (6, _), (8, _)]) [4, 5, 2, 1, 0] rfl ?_
    rw [pk_lRem (a := a) (b := b) (by have := h.2.1.1; omega) (by omega) (by omega), xii]
    have hs : s < 100 := by
      rcases Nat.lt_or_ge s 100 with q | q
      · exact q
      · have h4 : s = 100 := by omega
        subst h4
        exact absurd (gI_100 h) hb
    exact ih (s + 1) b (a % b) (by omega) (by omega) (gI_s h hb)
theorem k_A_cd26 {n n0 a b : Nat} {G : xG} {v0 v2 : Int64} (ha : a < 281474976710656) (hb : b < 281474976710656) :
    xS mA_commonDivisor n0 0 0 (qL n G (lN (Nat.gcd a b))) xNo 26 [(4, .long (lN a)), (0, .long v0), (2, .long v2)] [.long (lN b)] n G 0 0 := by
  refine xs_lstore (L2 := [(6, _), (4, _), (0, _), (2, _)]) dA_commonDivisor_26 (by decide) rfl ?_
  refine xs_iconst (v := 0) dA_commonDivisor_28 (by decide) ?_
  refine xs_istore (L2 := [(8, _), (6, _), (4, _), (0, _), (2, _)]) dA_commonDivisor_29 (by decide) rfl ?_
  refine xs_pick (L2 := [(0, _), (2, _), (4, _), (6, _), (8, _)]) [3, 4, 2, 1, 0] rfl ?_
  exact k_A_cd_loop 101 0 a b (by omega) (by omega) (gI_0 ha hb)
theorem k_A_cd12 {n n0 a : Nat} {y : Int} {G : xG} {v0 : Int64} (ha : a < 281474976710656) (hy : y.natAbs < 281474976710656) :
    xS mA_commonDivisor n0 0 0 (qL n G (lN (Nat.gcd a y.natAbs))) xNo 12 [(0, .long v0), (2, .long (iL y))] [.long (lN a)] n G 0 0 := by
  refine xs_lstore (L2 := [(4, _), (0, _), (2, _)]) dA_commonDivisor_12 (by decide) rfl ?_
  refine xs_lload_n dA_commonDivisor_14 rfl ?_
  refine xs_lconst (v := 0) dA_commonDivisor_15 (by decide) ?_
  refine xs_lc_ge dA_commonDivisor_16 dA_commonDivisor_17 (fun h => ?_) (fun h => ?_)
  · refine xs_lload_n dA_commonDivisor_25 rfl ?_
    rw [show [Value.long (iL y)] = [Value.long (lN y.natAbs)] by rw [(iL_abs (by omega)).2 h]]
    exact k_A_cd26 ha hy
  · refine xs_lload_n dA_commonDivisor_20 rfl ?_
    refine xs_lneg dA_commonDivisor_21 ?_
    refine xs_goto dA_commonDivisor_22 ?_
    rw [(iL_abs (by omega)).1 h]
    exact k_A_cd26 ha hy
theorem k_A_commonDivisor {n : Nat} {x y : Int} {G : xG} (hx : x.natAbs < 281474976710656) (hy : y.natAbs < 281474976710656) : xK mA_commonDivisor [.long (iL x), .long (iL y)] n G 0 0 (qL n G (lN (Nat.gcd x.natAbs y.natAbs))) xNo := by
  refine xK_of2 (L0 := [(0, _), (2, _)]) (by decide +kernel) rfl (Nat.le_of_ble_eq_true rfl) rfl ?_
  refine xs_lload_n dA_commonDivisor_0 rfl ?_
  refine xs_lconst (v := 0) dA_commonDivisor_1 (by decide) ?_
  refine xs_lc_ge dA_commonDivisor_2 dA_commonDivisor_3 (fun h => ?_) (fun h => ?_)
  · refine xs_lload_n dA_commonDivisor_11 rfl ?_
    rw [show [Value.long (iL x)] = [Value.long (lN x.natAbs)] by rw [(iL_abs (by omega)).2 h]]
    exact k_A_cd12 hx hy
  · refine xs_lload_n dA_commonDivisor_6 rfl ?_
    refine xs_lneg dA_commonDivisor_7 ?_
    refine xs_goto dA_commonDivisor_8 ?_
    rw [(iL_abs (by omega)).1 h]
    exact k_A_cd12 hx hy
