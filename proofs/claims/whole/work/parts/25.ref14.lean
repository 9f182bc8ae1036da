-- the reference's methods: contracts (part fourteen): a new object
def iniS : Int → Int := cpy (fun _ => -5) 0 (upI (upI Zr 0 2) 1 100) 164 6
section
variable {G : GX} {sz : Nat} {m : Mem} {o : Nat}
theorem ok_init6 (ho : m o = obj 6 [.inr none, .inr none, .inr none, .inl 0, .inr none, .inl 0, .inr none, .inl 0, .inr none, .inr none, .inr none, .inl 0]) : Ok G kX6_init 1 [.inr (some o)] (o + 1) m 8 13191 (PV (o + 9) (MM m o iniS Zr Zr 0 Zr 0 Zr 0 Zr Zr Zr 0)) := by
  refine Ok.body [some (.inr (some o)), none] rfl (Nat.le_of_ble_eq_true rfl) (by decide) ?_
  have loop : ∀ (n : Nat) (k : Int), (6 - k).toNat < n → 0 ≤ k → k ≤ 6 → V G kX6_init (rmM 1 8 13191) (QfM G (PV (o + 9) (MM m o iniS Zr Zr 0 Zr 0 Zr 0 Zr Zr Zr 0)) 8 13191) 89 [some (.inr (some o)), some (.inl k)] [] (o + 9) (MM m o (cpy (fun _ => -5) 0 (upI (upI Zr 0 2) 1 100) 164 k) Zr Zr 0 Zr 0 Zr 0 Zr Zr Zr 0) 8 13191 := by
    intro n
    induction n with
    | zero => intro k h; omega
    | succ n ih =>
      intro k hn hk1 hk2
      refine V.ild1 aX6_init_89 ?_
      refine V.bipush aX6_init_90 (by decide) (by decide) ?_
      refine V.icmp_ge aX6_init_92 (tgt := 113) (by decide) (fun c92 => ?_) (fun c92 => ?_)
      · refine V.ret aX6_init_113 rfl (by decide) ?_
        exact PV.of (by rw [show k = 6 by omega]; rfl)
      · refine V.ald0 aX6_init_95 ?_
        refine M.gf aX6_init_96 fl_RX6_7 rfl ?_
        refine V.sipush aX6_init_99 (by decide) (by decide) ?_
        refine V.ild1 aX6_init_102 ?_
        refine V.iadd aX6_init_103 (by omega) ?_
        refine V.bipush aX6_init_104 (by decide) (by decide) ?_
        refine M.sts aX6_init_106 (by omega) ?_
        refine V.inc1 aX6_init_107 (by omega) ?_
        refine V.goto aX6_init_110 (tgt := 89) (by decide) ?_
        rw [cpy_s (n := k) hk1 rfl rfl]
        exact ih (k + 1) (by omega) (by omega) (by omega)
  refine V.ald0 aX6_init_0 ?_
  refine V.objI aX6_init_1 gl_RX6_1 (by decide) ?_
  refine V.ald0 aX6_init_4 ?_
  refine V.sipush aX6_init_5 (by decide) (by decide) ?_
  refine V.newi aX6_init_8 (by decide) (by decide) ?_
  refine V.putF aX6_init_10 fl_RX6_7 rfl rfl ((upM_n (Nat.ne_of_lt (Nat.lt_succ_self _))).trans ho) (Nat.le_of_ble_eq_true rfl) rfl rfl ?_
  refine V.ald0 aX6_init_13 ?_
  refine V.sipush aX6_init_14 (by decide) (by decide) ?_
  refine V.newi aX6_init_17 (by decide) (by decide) ?_
  refine V.putF aX6_init_19 fl_RX6_13 rfl rfl ((upM_n (by omega)).trans upM_s) (Nat.le_of_ble_eq_true rfl) rfl rfl ?_
  refine V.ald0 aX6_init_22 ?_
  refine V.sipush aX6_init_23 (by decide) (by decide) ?_
  refine V.newi aX6_init_26 (by decide) (by decide) ?_
  refine V.putF aX6_init_28 fl_RX6_16 rfl rfl ((upM_n (by omega)).trans upM_s) (Nat.le_of_ble_eq_true rfl) rfl rfl ?_
  refine V.ald0 aX6_init_31 ?_
  refine V.sipush aX6_init_32 (by decide) (by decide) ?_
  refine V.newi aX6_init_35 (by decide) (by decide) ?_
  refine V.putF aX6_init_37 fl_RX6_19 rfl rfl ((upM_n (by omega)).trans upM_s) (Nat.le_of_ble_eq_true rfl) rfl rfl ?_
  refine V.ald0 aX6_init_40 ?_
  refine V.bipush aX6_init_41 (by decide) (by decide) ?_
  refine V.newc aX6_init_43 (by decide) (by decide) ?_
  refine V.putF aX6_init_45 fl_RX6_22 rfl rfl ((upM_n (by omega)).trans upM_s) (Nat.le_of_ble_eq_true rfl) rfl rfl ?_
  refine V.ald0 aX6_init_48 ?_
  refine V.bipush aX6_init_49 (by decide) (by decide) ?_
  refine V.newi aX6_init_51 (by decide) (by decide) ?_
  refine V.putF aX6_init_53 fl_RX6_26 rfl rfl ((upM_n (by omega)).trans upM_s) (Nat.le_of_ble_eq_true rfl) rfl rfl ?_
  refine V.ald0 aX6_init_56 ?_
  refine V.bipush aX6_init_57 (by decide) (by decide) ?_
  refine V.newi aX6_init_59 (by decide) (by decide) ?_
  refine V.putF aX6_init_61 fl_RX6_29 rfl rfl ((upM_n (by omega)).trans upM_s) (Nat.le_of_ble_eq_true rfl) rfl rfl ?_
  refine V.ald0 aX6_init_64 ?_
  refine V.bipush aX6_init_65 (by decide) (by decide) ?_
  refine V.newi aX6_init_67 (by decide) (by decide) ?_
  refine V.putF aX6_init_69 fl_RX6_32 rfl rfl ((upM_n (by omega)).trans upM_s) (Nat.le_of_ble_eq_true rfl) rfl rfl ?_
  refine V.mem (m2 := MM m o Zr Zr Zr 0 Zr 0 Zr 0 Zr Zr Zr 0) (MM_ext ?_ ?_ ?_ ?_ ?_ ?_ ?_ ?_ ?_ ?_).symm ?_
  · rw [upM_s]; rfl
  · simp [upM]; rfl
  · simp [upM]; rfl
  · simp [upM]; rfl
  · simp [upM]; rfl
  · simp [upM]; rfl
  · simp [upM]; rfl
  · simp [upM]; rfl
  · simp [upM]; rfl
  · intro a ha
    repeat rw [upM_n (by omega)]
  refine V.ald0 aX6_init_72 ?_
  refine M.gf aX6_init_73 fl_RX6_7 rfl ?_
  refine V.iconst aX6_init_76 (by decide) ?_
  refine V.iconst aX6_init_77 (by decide) ?_
  refine M.sts aX6_init_78 (by omega) ?_
  refine V.ald0 aX6_init_79 ?_
  refine M.gf aX6_init_80 fl_RX6_7 rfl ?_
  refine V.iconst aX6_init_83 (by decide) ?_
  refine V.bipush aX6_init_84 (by decide) (by decide) ?_
  refine M.sts aX6_init_86 (by omega) ?_
  refine V.iconst aX6_init_87 (by decide) ?_
  refine V.ist1 aX6_init_88 ?_
  refine V.mem (m2 := (MM m o (cpy (fun _ => -5) 0 (upI (upI Zr 0 2) 1 100) 164 0) Zr Zr 0 Zr 0 Zr 0 Zr Zr Zr 0)) (by rw [cpy_0 (by decide)]) ?_
  exact loop _ 0 (Nat.lt_succ_self _) (by decide) (by decide)
end

