/-! the model's constructor -/
def A0 : Nat → Nat → Int32 := fun k j => if k = 3 then (if j = 1 then -9 else 0) else 0
def s0 : Ms := (fun _ => 0, fun _ => 0, A0, fun _ => 0)
theorem c7_init (h : Hp) : Cal MX7_init 1 10 2666 [.ref 152] (hset h 152 (.inr (6, [.int 0, .null, .null, .null, .int 0, .null, .int 0, .int 0, .null, .null, .long 0, .long 0, .null, .null, .long 0, .null, .null]))) 153 (fun v h' z' => v = none ∧ z' = 163 ∧ h' = mOv h s0) := by
  refine Cal_of_R (by decide +kernel) (L := [.ref 152]) rfl (Nat.le_of_ble_eq_true rfl) ?_
  refine r_aload iX7_init_0 rfl ?_
  refine r_objinit iX7_init_1 objw_X7 (by decide) (Nat.le_of_ble_eq_true rfl) ?_
  refine r_aload iX7_init_4 rfl ?_
  refine r_iconst (v := 4) iX7_init_5 rfl ?_
  refine r_newarray iX7_init_6 (gt_1 33 rfl rfl) (by decide) rfl (Nat.le_of_ble_eq_true rfl) (Nat.le_of_ble_eq_true rfl) (Nat.le_of_ble_eq_true rfl) ?_
  refine r_putfield iX7_init_8 (fpX7_7 _ rfl rfl) (by omega) rfl (Nat.le_of_ble_eq_true rfl) ⟨rfl, rfl⟩ ?_
  refine r_aload iX7_init_11 rfl ?_
  refine r_iconst (v := 4) iX7_init_12 rfl ?_
  refine r_newarray iX7_init_13 (gt_1 33 rfl rfl) (by decide) rfl (Nat.le_of_ble_eq_true rfl) (Nat.le_of_ble_eq_true rfl) (Nat.le_of_ble_eq_true rfl) ?_
  refine r_putfield iX7_init_15 (fpX7_13 _ rfl rfl) (by omega) rfl (Nat.le_of_ble_eq_true rfl) ⟨rfl, rfl⟩ ?_
  refine r_aload iX7_init_18 rfl ?_
  refine r_bipush (v := 16) iX7_init_19 rfl ?_
  refine r_newarray iX7_init_21 (gt_1 33 rfl rfl) (by decide) rfl (Nat.le_of_ble_eq_true rfl) (Nat.le_of_ble_eq_true rfl) (Nat.le_of_ble_eq_true rfl) ?_
  refine r_putfield iX7_init_23 (fpX7_16 _ rfl rfl) (by omega) rfl (Nat.le_of_ble_eq_true rfl) ⟨rfl, rfl⟩ ?_
  refine r_aload iX7_init_26 rfl ?_
  refine r_bipush (v := 60) iX7_init_27 rfl ?_
  refine r_newarray iX7_init_29 (gt_1 33 rfl rfl) (by decide) rfl (Nat.le_of_ble_eq_true rfl) (Nat.le_of_ble_eq_true rfl) (Nat.le_of_ble_eq_true rfl) ?_
  refine r_putfield iX7_init_31 (fpX7_19 _ rfl rfl) (by omega) rfl (Nat.le_of_ble_eq_true rfl) ⟨rfl, rfl⟩ ?_
  refine r_aload iX7_init_34 rfl ?_
  refine r_sipush (v := 480) iX7_init_35 rfl ?_
  refine r_newarray iX7_init_38 (gt_1 33 rfl rfl) (by decide) rfl (Nat.le_of_ble_eq_true rfl) (Nat.le_of_ble_eq_true rfl) (Nat.le_of_ble_eq_true rfl) ?_
  refine r_putfield iX7_init_40 (fpX7_22 _ rfl rfl) (by omega) rfl (Nat.le_of_ble_eq_true rfl) ⟨rfl, rfl⟩ ?_
  refine r_aload iX7_init_43 rfl ?_
  refine r_sipush (v := 1200) iX7_init_44 rfl ?_
  refine r_newarray iX7_init_47 (gt_3 59 rfl rfl) (by decide) rfl (Nat.le_of_ble_eq_true rfl) (Nat.le_of_ble_eq_true rfl) (Nat.le_of_ble_eq_true rfl) ?_
  refine r_putfield iX7_init_49 (fpX7_25 _ rfl rfl) (by omega) rfl (Nat.le_of_ble_eq_true rfl) ⟨rfl, rfl⟩ ?_
  refine r_aload iX7_init_52 rfl ?_
  refine r_sipush (v := 420) iX7_init_53 rfl ?_
  refine r_newarray iX7_init_56 (gt_1 33 rfl rfl) (by decide) rfl (Nat.le_of_ble_eq_true rfl) (Nat.le_of_ble_eq_true rfl) (Nat.le_of_ble_eq_true rfl) ?_
  refine r_putfield iX7_init_58 (fpX7_29 _ rfl rfl) (by omega) rfl (Nat.le_of_ble_eq_true rfl) ⟨rfl, rfl⟩ ?_
  refine r_aload iX7_init_61 rfl ?_
  refine r_sipush (v := 420) iX7_init_62 rfl ?_
  refine r_newarray iX7_init_65 (gt_1 33 rfl rfl) (by decide) rfl (Nat.le_of_ble_eq_true rfl) (Nat.le_of_ble_eq_true rfl) (Nat.le_of_ble_eq_true rfl) ?_
  refine r_putfield iX7_init_67 (fpX7_32 _ rfl rfl) (by omega) rfl (Nat.le_of_ble_eq_true rfl) ⟨rfl, rfl⟩ ?_
  refine r_aload iX7_init_70 rfl ?_
  refine r_iconst (v := 2) iX7_init_71 rfl ?_
  refine r_newarray iX7_init_72 (gt_1 139 rfl rfl) (by decide) rfl (Nat.le_of_ble_eq_true rfl) (Nat.le_of_ble_eq_true rfl) (Nat.le_of_ble_eq_true rfl) ?_
  refine r_putfield iX7_init_74 (fpX7_35 _ rfl rfl) (by omega) rfl (Nat.le_of_ble_eq_true rfl) ⟨rfl, rfl⟩ ?_
  refine r_aload iX7_init_77 rfl ?_
  refine r_bipush (v := 60) iX7_init_78 rfl ?_
  refine r_newarray iX7_init_80 (gt_1 33 rfl rfl) (by decide) rfl (Nat.le_of_ble_eq_true rfl) (Nat.le_of_ble_eq_true rfl) (Nat.le_of_ble_eq_true rfl) ?_
  refine r_putfield iX7_init_82 (fpX7_39 _ rfl rfl) (by omega) rfl (Nat.le_of_ble_eq_true rfl) ⟨rfl, rfl⟩ ?_
  refine r_aload iX7_init_85 rfl ?_
  refine r_getfield iX7_init_86 (flX7_19 _ rfl) rfl rfl ?_
  refine r_iconst (v := 1) iX7_init_89 rfl ?_
  refine r_bipush (v := (-9)) iX7_init_90 rfl ?_
  refine r_iastore iX7_init_92 (by omega) rfl (show vp_in (nI 1) 60 from vp_in_nI (by omega) (by decide)) ?_
  refine r_vret iX7_init_93 rfl ?_
  refine ⟨rfl, rfl, ?_⟩
  funext a
  by_cases g : 152 ≤ a ∧ a < 163
  · obtain ⟨i, hi, rfl⟩ : ∃ i, i < 11 ∧ a = 152 + i := ⟨a - 152, by omega, by omega⟩
    rw [mOv_in h s0 i hi]
    match i, hi with
    | 0, _ => rfl
    | 1, _ => rfl
    | 2, _ => rfl
    | 3, _ => rfl
    | 4, _ =>
      refine congrArg (fun f => some (Sum.inl (FieldType.int, 60, f))) ?_
      funext j
      show (if j = (1 : Int32).toNatClampNeg then Value.int (-9) else Value.int 0) = Value.int (if j = 1 then -9 else 0)
      rw [show (1 : Int32).toNatClampNeg = 1 from nI_clamp (n := 1) (by omega)]
      by_cases g : j = 1
      · rw [if_pos g, if_pos g]
      · rw [if_neg g, if_neg g]
    | 5, _ => rfl
    | 6, _ => rfl
    | 7, _ => rfl
    | 8, _ => rfl
    | 9, _ => rfl
    | 10, _ => rfl
  · rw [mOv_out h s0 (by omega)]
    iterate 22 rw [hset_ne _ _ (by omega)]
