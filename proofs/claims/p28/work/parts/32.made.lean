-- entries are made
def szE (kind : Int) (nv : Nat) (vf : Int → Int) : Int := if kind = 0 then (if nv = 0 then 4 else pict vf 0) else if kind = 1 ∨ kind = 2 then 4 else 3 + nv
abbrev newE : List AV := [.inl 0, .inl 0, .inl 0, .inl 0, .inl 0, .inr none, .inl 0, .inl 0]
abbrev fobj (page kind fr to am : Int) (va : Nat) (dm size : Int) : List AV := [.inl page, .inl kind, .inl fr, .inl to, .inl am, .inr (some va), .inl dm, .inl size]
section
variable {G : GX} {sz : Nat} {m : Mem}
theorem ok_init0 {e va nv : Nat} {vf : Int → Int} {page kind fr to am dm : Int} (ho : m e = obj 0 newE) (hd : dm = 0 ∨ dm = 1) (hv : m va = iar nv vf) (hk : kind = 0 → nv = 12 ∨ nv = 0) (hk2 : 0 ≤ kind ∧ kind ≤ 4) (hn : nv ≤ 12) : Ok G kX0_init 1 [.inr (some e), .inl page, .inl kind, .inl fr, .inl to, .inl am, .inr (some va), .inl dm] sz m 0 0 (PV sz (upM m e (obj 0 (fobj page kind fr to am va dm (szE kind nv vf))))) := by
  refine Ok.body [some (.inr (some e)), some (.inl page), some (.inl kind), some (.inl fr), some (.inl to), some (.inl am), some (.inr (some va)), some (.inl dm)] rfl (Nat.le_of_ble_eq_true rfl) (by decide) ?_
  have hne : va ≠ e := by
    intro q
    rw [q, ho] at hv
    cases hv
  have hv2 : ∀ x, upM m e x va = iar nv vf := fun x => (upM_n hne).trans hv
  refine V.mem (m2 := upM m e (obj 0 newE)) (upM_self ho) ?_
  refine V.ald0 aX0_init_0 ?_
  refine V.objI aX0_init_1 gl_RX0_3 (by decide) ?_
  refine V.ald0 aX0_init_4 ?_
  refine V.ild1 aX0_init_5 ?_
  refine V.putF aX0_init_6 fl_RX0_9 rfl rfl upM_s (Nat.le_of_ble_eq_true rfl) rfl rfl ?_
  rw [upM_upM]
  refine V.ald0 aX0_init_9 ?_
  refine V.ild2 aX0_init_10 ?_
  refine V.putF aX0_init_11 fl_RX0_15 rfl rfl upM_s (Nat.le_of_ble_eq_true rfl) rfl rfl ?_
  rw [upM_upM]
  refine V.ald0 aX0_init_14 ?_
  refine V.ild3 aX0_init_15 ?_
  refine V.putF aX0_init_16 fl_RX0_18 rfl rfl upM_s (Nat.le_of_ble_eq_true rfl) rfl rfl ?_
  rw [upM_upM]
  refine V.ald0 aX0_init_19 ?_
  refine V.ild4 aX0_init_20 ?_
  refine V.putF aX0_init_22 fl_RX0_21 rfl rfl upM_s (Nat.le_of_ble_eq_true rfl) rfl rfl ?_
  rw [upM_upM]
  refine V.ald0 aX0_init_25 ?_
  refine V.ild5 aX0_init_26 ?_
  refine V.putF aX0_init_28 fl_RX0_24 rfl rfl upM_s (Nat.le_of_ble_eq_true rfl) rfl rfl ?_
  rw [upM_upM]
  refine V.ald0 aX0_init_31 ?_
  refine V.ald6 aX0_init_32 ?_
  refine V.putF aX0_init_34 fl_RX0_27 rfl rfl upM_s (Nat.le_of_ble_eq_true rfl) rfl rfl ?_
  rw [upM_upM]
  refine V.ald0 aX0_init_37 ?_
  refine V.ild7 aX0_init_38 ?_
  refine V.putF aX0_init_40 fl_RX0_31 rfl rfl upM_s (Nat.le_of_ble_eq_true rfl) (by rcases hd with rfl | rfl <;> rfl) (by rcases hd with rfl | rfl <;> rfl) ?_
  rw [upM_upM]
  have hv3 := hv2 (obj 0 ((((((((newE.set 0 (.inl page)).set 1 (.inl kind)).set 2 (.inl fr)).set 3 (.inl to)).set 4 (.inl am)).set 5 (.inr (some va)))).set 6 (.inl dm)))
  refine V.ild2 aX0_init_43 ?_
  refine V.if_ne aX0_init_44 (tgt := 59) (by decide) (fun c44 => ?_) (fun c44 => ?_)
  · refine V.ald0 aX0_init_59 ?_
    refine V.ild2 aX0_init_60 ?_
    refine V.iconst aX0_init_61 (by decide) ?_
    refine V.icmp_eq aX0_init_62 (tgt := 70) (by decide) (fun c62 => ?_) (fun c62 => ?_)
    · refine V.iconst aX0_init_70 (by decide) ?_
      refine V.goto aX0_init_71 (tgt := 79) (by decide) ?_
      refine V.putF aX0_init_79 fl_RX0_39 rfl rfl upM_s (Nat.le_of_ble_eq_true rfl) rfl rfl ?_
      rw [upM_upM]
      refine V.ret aX0_init_82 rfl (by decide) ?_
      exact PV.of (by unfold szE; rw [if_neg c44]; first | (rw [if_pos (by omega)]; rfl) | (rw [if_neg (by omega)]; rfl))
    · refine V.ild2 aX0_init_65 ?_
      refine V.iconst aX0_init_66 (by decide) ?_
      refine V.icmp_ne aX0_init_67 (tgt := 74) (by decide) (fun c67 => ?_) (fun c67 => ?_)
      · refine V.iconst aX0_init_74 (by decide) ?_
        refine V.ald6 aX0_init_75 ?_
        refine V.alen aX0_init_77 hv3 (by omega) ?_
        refine V.iadd aX0_init_78 (by omega) ?_
        refine V.putF aX0_init_79 fl_RX0_39 rfl rfl upM_s (Nat.le_of_ble_eq_true rfl) rfl rfl ?_
        rw [upM_upM]
        refine V.ret aX0_init_82 rfl (by decide) ?_
        exact PV.of (by unfold szE; rw [if_neg c44]; first | (rw [if_pos (by omega)]; rfl) | (rw [if_neg (by omega)]; rfl))
      · refine V.iconst aX0_init_70 (by decide) ?_
        refine V.goto aX0_init_71 (tgt := 79) (by decide) ?_
        refine V.putF aX0_init_79 fl_RX0_39 rfl rfl upM_s (Nat.le_of_ble_eq_true rfl) rfl rfl ?_
        rw [upM_upM]
        refine V.ret aX0_init_82 rfl (by decide) ?_
        exact PV.of (by unfold szE; rw [if_neg c44]; first | (rw [if_pos (by omega)]; rfl) | (rw [if_neg (by omega)]; rfl))
  · rcases hk c44 with n1 | n1
    · subst n1
      refine V.ald0 aX0_init_47 ?_
      refine V.ald6 aX0_init_48 ?_
      refine call_X0_sizeOfPicture aX0_init_50 gl_RX0_35 (ok_pics hv3) (Nat.le_of_ble_eq_true rfl) (by decide) (goI ?_)
      refine V.putF aX0_init_53 fl_RX0_39 rfl rfl upM_s (Nat.le_of_ble_eq_true rfl) rfl rfl ?_
      rw [upM_upM]
      refine V.goto aX0_init_56 (tgt := 82) (by decide) ?_
      refine V.ret aX0_init_82 rfl (by decide) ?_
      exact PV.of (by unfold szE; rw [if_pos c44, if_neg (by decide)]; rfl)
    · subst n1
      refine V.ald0 aX0_init_47 ?_
      refine V.ald6 aX0_init_48 ?_
      refine call_X0_sizeOfPicture aX0_init_50 gl_RX0_35 (ok_pics0 hv3) (Nat.le_of_ble_eq_true rfl) (by decide) (goI ?_)
      refine V.putF aX0_init_53 fl_RX0_39 rfl rfl upM_s (Nat.le_of_ble_eq_true rfl) rfl rfl ?_
      rw [upM_upM]
      refine V.goto aX0_init_56 (tgt := 82) (by decide) ?_
      refine V.ret aX0_init_82 rfl (by decide) ?_
      exact PV.of (by unfold szE; rw [if_pos c44, if_pos rfl]; rfl)
theorem ok_ofCells {page kind fr to am : Int} {t0 : Nat} {h0 : Int → Int} (ht : G.2.2.2 = t0) (hz : m t0 = iar 0 h0) (hk : kind = 1 ∨ kind = 2) (hs : t0 < sz) : Ok G kX0_ofCells 2 [.inl page, .inl kind, .inl fr, .inl to, .inl am] sz m 1 8 (PR (some sz) (sz + 1) (upM m sz (obj 0 (fobj page kind fr to am t0 0 4)))) := by
  refine Ok.body [some (.inl page), some (.inl kind), some (.inl fr), some (.inl to), some (.inl am)] rfl (Nat.le_of_ble_eq_true rfl) (by decide) ?_
  obtain ⟨nv, hnv⟩ : ∃ nv : Nat, nv = 0 := ⟨0, rfl⟩
  obtain ⟨vf, hvf⟩ : ∃ vf, vf = h0 := ⟨h0, rfl⟩
  have hvv : ∀ x, upM m sz x t0 = iar nv vf := fun x => by rw [upM_n (by omega), hz, hnv, hvf]
  refine V.new aX0_ofCells_0 nl_RX0_10 (by decide) ?_
  refine V.dup aX0_ofCells_3 ?_
  refine V.ild0 aX0_ofCells_4 ?_
  refine V.ild1 aX0_ofCells_5 ?_
  refine V.ild2 aX0_ofCells_6 ?_
  refine V.ild3 aX0_ofCells_7 ?_
  refine V.ild4 aX0_ofCells_8 ?_
  refine V.gets aX0_ofCells_10 rfl rfl ?_
  rw [ht]
  refine V.iconst aX0_ofCells_13 (by decide) ?_
  refine call_X0_init aX0_ofCells_14 gl_RX0_45 ((ok_init0 (nv := nv) (vf := vf) upM_s (by omega) (hvv _) (by omega) (by omega) (by omega))) (Nat.le_of_ble_eq_true rfl) (by decide) (goV ?_)
  refine V.aret aX0_ofCells_17 rfl (Or.inl ⟨_, rfl⟩) (by decide) ?_
  exact ⟨rfl, rfl, by rw [upM_upM]; unfold szE; rw [if_neg (by omega), if_pos hk]⟩
theorem ok_ofTurn {page am : Int} {t0 : Nat} {h0 : Int → Int} (ht : G.2.2.2 = t0) (hz : m t0 = iar 0 h0) (hs : t0 < sz) : Ok G kX0_ofTurn 2 [.inl page, .inl am] sz m 1 8 (PR (some sz) (sz + 1) (upM m sz (obj 0 (fobj page 3 0 11 am t0 0 3)))) := by
  refine Ok.body [some (.inl page), some (.inl am)] rfl (Nat.le_of_ble_eq_true rfl) (by decide) ?_
  obtain ⟨nv, hnv⟩ : ∃ nv : Nat, nv = 0 := ⟨0, rfl⟩
  obtain ⟨vf, hvf⟩ : ∃ vf, vf = h0 := ⟨h0, rfl⟩
  have hvv : ∀ x, upM m sz x t0 = iar nv vf := fun x => by rw [upM_n (by omega), hz, hnv, hvf]
  refine V.new aX0_ofTurn_0 nl_RX0_10 (by decide) ?_
  refine V.dup aX0_ofTurn_3 ?_
  refine V.ild0 aX0_ofTurn_4 ?_
  refine V.iconst aX0_ofTurn_5 (by decide) ?_
  refine V.iconst aX0_ofTurn_6 (by decide) ?_
  refine V.bipush aX0_ofTurn_7 (by decide) (by decide) ?_
  refine V.ild1 aX0_ofTurn_9 ?_
  refine V.gets aX0_ofTurn_10 rfl rfl ?_
  rw [ht]
  refine V.iconst aX0_ofTurn_13 (by decide) ?_
  refine call_X0_init aX0_ofTurn_14 gl_RX0_45 ((ok_init0 (nv := nv) (vf := vf) upM_s (by omega) (hvv _) (by omega) (by omega) (by omega))) (Nat.le_of_ble_eq_true rfl) (by decide) (goV ?_)
  refine V.aret aX0_ofTurn_17 rfl (Or.inl ⟨_, rfl⟩) (by decide) ?_
  exact ⟨rfl, rfl, by rw [upM_upM, hnv]; rfl⟩
theorem ok_ofPicture {page : Int} {va nv : Nat} {vf : Int → Int} (hz : m va = iar nv vf) (hn : nv = 12 ∨ nv = 0) (hs : va < sz) : Ok G kX0_ofPicture 2 [.inl page, .inr (some va)] sz m 1 8 (PR (some sz) (sz + 1) (upM m sz (obj 0 (fobj page 0 0 11 0 va 0 (if nv = 0 then 4 else pict vf 0))))) := by
  refine Ok.body [some (.inl page), some (.inr (some va))] rfl (Nat.le_of_ble_eq_true rfl) (by decide) ?_
  have hvv : ∀ x, upM m sz x va = iar nv vf := fun x => by rw [upM_n (by omega), hz]
  refine V.new aX0_ofPicture_0 nl_RX0_10 (by decide) ?_
  refine V.dup aX0_ofPicture_3 ?_
  refine V.ild0 aX0_ofPicture_4 ?_
  refine V.iconst aX0_ofPicture_5 (by decide) ?_
  refine V.iconst aX0_ofPicture_6 (by decide) ?_
  refine V.bipush aX0_ofPicture_7 (by decide) (by decide) ?_
  refine V.iconst aX0_ofPicture_9 (by decide) ?_
  refine V.ald1 aX0_ofPicture_10 ?_
  refine V.iconst aX0_ofPicture_11 (by decide) ?_
  refine call_X0_init aX0_ofPicture_12 gl_RX0_45 ((ok_init0 (nv := nv) (vf := vf) upM_s (by omega) (hvv _) (by omega) (by omega) (by omega))) (Nat.le_of_ble_eq_true rfl) (by decide) (goV ?_)
  refine V.aret aX0_ofPicture_15 rfl (Or.inl ⟨_, rfl⟩) (by decide) ?_
  exact ⟨rfl, rfl, by rw [upM_upM]; rfl⟩
theorem ok_ofRenewal {page : Int} {t0 : Nat} {h0 : Int → Int} (ht : G.2.2.2 = t0) (hz : m t0 = iar 0 h0) (hs : t0 < sz) : Ok G kX0_ofRenewal 3 [.inl page] sz m 1 8 (PR (some sz) (sz + 1) (upM m sz (obj 0 (fobj page 0 0 11 0 t0 0 4)))) := by
  refine Ok.body [some (.inl page)] rfl (Nat.le_of_ble_eq_true rfl) (by decide) ?_
  refine V.ild0 aX0_ofRenewal_0 ?_
  refine V.gets aX0_ofRenewal_1 rfl rfl ?_
  rw [ht]
  refine call_X0_ofPicture aX0_ofRenewal_4 gl_RX0_48 (ok_ofPicture hz (Or.inr rfl) hs) (Nat.le_of_ble_eq_true rfl) (by decide) (goR ?_)
  refine V.aret aX0_ofRenewal_7 rfl (Or.inl ⟨_, rfl⟩) (by decide) ?_
  exact ⟨rfl, rfl, rfl⟩
theorem ok_ofRow {page fr : Int} {va nv : Nat} {vf : Int → Int} (hz : m va = iar nv vf) (hn : nv ≤ 12) (hf : 0 ≤ fr ∧ fr ≤ 11) (hs : va < sz) : Ok G kX0_ofRow 2 [.inl page, .inl fr, .inr (some va)] sz m 1 8 (PR (some sz) (sz + 1) (upM m sz (obj 0 (fobj page 4 fr (fr + nv - 1) 0 va 0 (3 + nv))))) := by
  refine Ok.body [some (.inl page), some (.inl fr), some (.inr (some va))] rfl (Nat.le_of_ble_eq_true rfl) (by decide) ?_
  have hvv : ∀ x, upM m sz x va = iar nv vf := fun x => by rw [upM_n (by omega), hz]
  have hv1 := hvv (obj 0 newE)
  refine V.new aX0_ofRow_0 nl_RX0_10 (by decide) ?_
  refine V.dup aX0_ofRow_3 ?_
  refine V.ild0 aX0_ofRow_4 ?_
  refine V.iconst aX0_ofRow_5 (by decide) ?_
  refine V.ild1 aX0_ofRow_6 ?_
  refine V.ild1 aX0_ofRow_7 ?_
  refine V.ald2 aX0_ofRow_8 ?_
  refine V.alen aX0_ofRow_9 hv1 (by omega) ?_
  refine V.iadd aX0_ofRow_10 (by omega) ?_
  refine V.iconst aX0_ofRow_11 (by decide) ?_
  refine V.isub aX0_ofRow_12 (by omega) ?_
  refine V.iconst aX0_ofRow_13 (by decide) ?_
  refine V.ald2 aX0_ofRow_14 ?_
  refine V.iconst aX0_ofRow_15 (by decide) ?_
  refine call_X0_init aX0_ofRow_16 gl_RX0_45 ((ok_init0 (nv := nv) (vf := vf) upM_s (by omega) (hvv _) (by omega) (by omega) (by omega))) (Nat.le_of_ble_eq_true rfl) (by decide) (goV ?_)
  refine V.aret aX0_ofRow_19 rfl (Or.inl ⟨_, rfl⟩) (by decide) ?_
  exact ⟨rfl, rfl, by rw [upM_upM]; rfl⟩
theorem ok_asDamaged {e va nv : Nat} {f vf : Int → Int} {a am : Int} (ho : m e = obj 0 (eobj f a am va)) (hz : m va = iar nv vf) (hEV : EntV f a am nv vf) (hn : nv ≤ 12) (hk : 0 ≤ f (a + 1) ∧ f (a + 1) ≤ 4) (hs : va < sz ∧ e < sz) : Ok G kX0_asDamaged 2 [.inr (some e)] sz m 1 8 (PR (some sz) (sz + 1) (upM m sz (obj 0 (fobj (f a) (f (a + 1)) (f (a + 2)) (f (a + 2) + f (a + 3) - 1) am va 1 (szE (f (a + 1)) nv vf))))) := by
  refine Ok.body [some (.inr (some e))] rfl (Nat.le_of_ble_eq_true rfl) (by decide) ?_
  have hvv : ∀ x, upM m sz x va = iar nv vf := fun x => by rw [upM_n (by omega), hz]
  have ho2 : upM m sz (obj 0 newE) e = obj 0 (eobj f a am va) := by rw [upM_n (by omega), ho]
  have h12 := hEV.2.1
  refine V.new aX0_asDamaged_0 nl_RX0_10 (by decide) ?_
  refine V.dup aX0_asDamaged_3 ?_
  refine V.ald0 aX0_asDamaged_4 ?_
  refine V.getf aX0_asDamaged_5 fl_RX0_9 ho2 rfl ?_
  refine V.ald0 aX0_asDamaged_8 ?_
  refine V.getf aX0_asDamaged_9 fl_RX0_15 ho2 rfl ?_
  refine V.ald0 aX0_asDamaged_12 ?_
  refine V.getf aX0_asDamaged_13 fl_RX0_18 ho2 rfl ?_
  refine V.ald0 aX0_asDamaged_16 ?_
  refine V.getf aX0_asDamaged_17 fl_RX0_21 ho2 rfl ?_
  refine V.ald0 aX0_asDamaged_20 ?_
  refine V.getf aX0_asDamaged_21 fl_RX0_24 ho2 rfl ?_
  refine V.ald0 aX0_asDamaged_24 ?_
  refine V.getf aX0_asDamaged_25 fl_RX0_27 ho2 rfl ?_
  refine V.iconst aX0_asDamaged_28 (by decide) ?_
  refine call_X0_init aX0_asDamaged_29 gl_RX0_45 ((ok_init0 (nv := nv) (vf := vf) upM_s (by omega) (hvv _) (fun q => Or.inl (h12 q).1) (by omega) (by omega))) (Nat.le_of_ble_eq_true rfl) (by decide) (goV ?_)
  refine V.aret aX0_asDamaged_32 rfl (Or.inl ⟨_, rfl⟩) (by decide) ?_
  exact ⟨rfl, rfl, by rw [upM_upM]⟩
end
