/-! class: telling -/
section B14
set_option maxHeartbeats 60000
variable {g : GT} {nt : Nat} {C M : St} {o : Int64} {t u : Int32}
theorem okC_resolved (hW : WF nt C) : RET g K_X4_resolvedStamp 0 0 [.ref (ad g 0)] nt C M o (some (.int (rsS C nt 0 (closedS C)))) C M o := ok_resolvedStamp hW.n40 hW.b hW.t33
theorem ok_told0 (ht : tok nt t) (hW : WF nt C) : RET g K_X4_told 0 0 [.ref (ad g 0), .int t, .int 0] nt C M o (some (.int (toS C t.toNatClampNeg 0))) C M o := by
  refine MT_of (by decide +kernel) rfl rfl (Nat.le_of_ble_eq_true rfl) (by simp [cat_rf, cat_int, cat_ref]) (fun h => ?_)
  have hi40 := hW.n40
  have h33 : C 33 t.toNatClampNeg = t := (hW.x33 _ ht.2).trans (nI_self ht.1)
  have hin : inr t 40 t.toNatClampNeg := inr_of (fun q => q.elim ht.1 (fun z => absurd ht.2 (by omega)))
  have hlt : t < C 10 0 := by have q := hW.ltb ht.2; rw [nI_self ht.1] at q; exact q
  refine V_aload_n (dG D_X4_told 0 rfl) rfl ?_
  refine V_iload_n (dG D_X4_told 1 rfl) rfl ?_
  refine R_nb1 (ok_needTransaction ht.1 hlt) lk_X4_123 (dG D_X4_told 2 rfl) rcv_4 ⟨Nat.le_of_ble_eq_true rfl, Nat.le_of_ble_eq_true rfl⟩ ⟨(Nat.le_of_ble_eq_true rfl), (Nat.le_of_ble_eq_true rfl)⟩ (by first | exact Nat.le_of_ble_eq_true rfl | simp [cat_rf, cat_int, cat_ref]) (fun h => ?_)
  refine V_aload_n (dG D_X4_told 3 rfl) rfl ?_
  refine V_iload_n (dG D_X4_told 4 rfl) rfl ?_
  refine R_nb1 (ok_needWhat (x := 0) (by decide) (by decide)) lk_X4_192 (dG D_X4_told 5 rfl) rcv_4 ⟨Nat.le_of_ble_eq_true rfl, Nat.le_of_ble_eq_true rfl⟩ ⟨(Nat.le_of_ble_eq_true rfl), (Nat.le_of_ble_eq_true rfl)⟩ (by first | exact Nat.le_of_ble_eq_true rfl | simp [cat_rf, cat_int, cat_ref]) (fun h => ?_)
  refine V_aload_n (dG D_X4_told 6 rfl) rfl ?_
  refine gf_X4_23 rfl (dG D_X4_told 7 rfl) ?_
  refine V_iload_n (dG D_X4_told 8 rfl) rfl ?_
  refine aald_trs (dG D_X4_told 9 rfl) hin ?_
  rw [h33]
  refine V_astore_nt (dG D_X4_told 10 rfl) (Nat.le_of_ble_eq_true rfl) ?_
  refine V_iload_n (dG D_X4_told 11 rfl) rfl ?_
  refine V_tabIn (off := 38) (tgt := 56) (dG D_X4_told 12 rfl) (by decide) (by decide) rfl (by decide) ?_
  refine V_aload_nt (dG D_X4_told 13 rfl) rfl ?_
  refine gf_X4_147 rfl (dG D_X4_told 14 rfl) (by assumption) ?_
  exact V_iret (dG D_X4_told 15 rfl) rfl (Nat.le_of_ble_eq_true rfl) (Nat.le_of_ble_eq_true rfl) ⟨rfl, rfl, rfl, rfl⟩
theorem ok_told1 (ht : tok nt t) (hW : WF nt C) : RET g K_X4_told 0 0 [.ref (ad g 0), .int t, .int 1] nt C M o (some (.int (toS C t.toNatClampNeg 1))) C M o := by
  refine MT_of (by decide +kernel) rfl rfl (Nat.le_of_ble_eq_true rfl) (by simp [cat_rf, cat_int, cat_ref]) (fun h => ?_)
  have hi40 := hW.n40
  have h33 : C 33 t.toNatClampNeg = t := (hW.x33 _ ht.2).trans (nI_self ht.1)
  have hin : inr t 40 t.toNatClampNeg := inr_of (fun q => q.elim ht.1 (fun z => absurd ht.2 (by omega)))
  have hlt : t < C 10 0 := by have q := hW.ltb ht.2; rw [nI_self ht.1] at q; exact q
  refine V_aload_n (dG D_X4_told 0 rfl) rfl ?_
  refine V_iload_n (dG D_X4_told 1 rfl) rfl ?_
  refine R_nb1 (ok_needTransaction ht.1 hlt) lk_X4_123 (dG D_X4_told 2 rfl) rcv_4 ⟨Nat.le_of_ble_eq_true rfl, Nat.le_of_ble_eq_true rfl⟩ ⟨(Nat.le_of_ble_eq_true rfl), (Nat.le_of_ble_eq_true rfl)⟩ (by first | exact Nat.le_of_ble_eq_true rfl | simp [cat_rf, cat_int, cat_ref]) (fun h => ?_)
  refine V_aload_n (dG D_X4_told 3 rfl) rfl ?_
  refine V_iload_n (dG D_X4_told 4 rfl) rfl ?_
  refine R_nb1 (ok_needWhat (x := 1) (by decide) (by decide)) lk_X4_192 (dG D_X4_told 5 rfl) rcv_4 ⟨Nat.le_of_ble_eq_true rfl, Nat.le_of_ble_eq_true rfl⟩ ⟨(Nat.le_of_ble_eq_true rfl), (Nat.le_of_ble_eq_true rfl)⟩ (by first | exact Nat.le_of_ble_eq_true rfl | simp [cat_rf, cat_int, cat_ref]) (fun h => ?_)
  refine V_aload_n (dG D_X4_told 6 rfl) rfl ?_
  refine gf_X4_23 rfl (dG D_X4_told 7 rfl) ?_
  refine V_iload_n (dG D_X4_told 8 rfl) rfl ?_
  refine aald_trs (dG D_X4_told 9 rfl) hin ?_
  rw [h33]
  refine V_astore_nt (dG D_X4_told 10 rfl) (Nat.le_of_ble_eq_true rfl) ?_
  refine V_iload_n (dG D_X4_told 11 rfl) rfl ?_
  refine V_tabIn (off := 43) (tgt := 61) (dG D_X4_told 12 rfl) (by decide) (by decide) rfl (by decide) ?_
  refine V_aload_nt (dG D_X4_told 16 rfl) rfl ?_
  refine gf_X4_172 rfl (dG D_X4_told 17 rfl) (by assumption) ?_
  exact V_iret (dG D_X4_told 18 rfl) rfl (Nat.le_of_ble_eq_true rfl) (Nat.le_of_ble_eq_true rfl) ⟨rfl, rfl, rfl, rfl⟩
theorem ok_told2 (ht : tok nt t) (hW : WF nt C) : RET g K_X4_told 0 0 [.ref (ad g 0), .int t, .int 2] nt C M o (some (.int (toS C t.toNatClampNeg 2))) C M o := by
  refine MT_of (by decide +kernel) rfl rfl (Nat.le_of_ble_eq_true rfl) (by simp [cat_rf, cat_int, cat_ref]) (fun h => ?_)
  have hi40 := hW.n40
  have h33 : C 33 t.toNatClampNeg = t := (hW.x33 _ ht.2).trans (nI_self ht.1)
  have hin : inr t 40 t.toNatClampNeg := inr_of (fun q => q.elim ht.1 (fun z => absurd ht.2 (by omega)))
  have hlt : t < C 10 0 := by have q := hW.ltb ht.2; rw [nI_self ht.1] at q; exact q
  refine V_aload_n (dG D_X4_told 0 rfl) rfl ?_
  refine V_iload_n (dG D_X4_told 1 rfl) rfl ?_
  refine R_nb1 (ok_needTransaction ht.1 hlt) lk_X4_123 (dG D_X4_told 2 rfl) rcv_4 ⟨Nat.le_of_ble_eq_true rfl, Nat.le_of_ble_eq_true rfl⟩ ⟨(Nat.le_of_ble_eq_true rfl), (Nat.le_of_ble_eq_true rfl)⟩ (by first | exact Nat.le_of_ble_eq_true rfl | simp [cat_rf, cat_int, cat_ref]) (fun h => ?_)
  refine V_aload_n (dG D_X4_told 3 rfl) rfl ?_
  refine V_iload_n (dG D_X4_told 4 rfl) rfl ?_
  refine R_nb1 (ok_needWhat (x := 2) (by decide) (by decide)) lk_X4_192 (dG D_X4_told 5 rfl) rcv_4 ⟨Nat.le_of_ble_eq_true rfl, Nat.le_of_ble_eq_true rfl⟩ ⟨(Nat.le_of_ble_eq_true rfl), (Nat.le_of_ble_eq_true rfl)⟩ (by first | exact Nat.le_of_ble_eq_true rfl | simp [cat_rf, cat_int, cat_ref]) (fun h => ?_)
  refine V_aload_n (dG D_X4_told 6 rfl) rfl ?_
  refine gf_X4_23 rfl (dG D_X4_told 7 rfl) ?_
  refine V_iload_n (dG D_X4_told 8 rfl) rfl ?_
  refine aald_trs (dG D_X4_told 9 rfl) hin ?_
  rw [h33]
  refine V_astore_nt (dG D_X4_told 10 rfl) (Nat.le_of_ble_eq_true rfl) ?_
  refine V_iload_n (dG D_X4_told 11 rfl) rfl ?_
  refine V_tabIn (off := 48) (tgt := 66) (dG D_X4_told 12 rfl) (by decide) (by decide) rfl (by decide) ?_
  refine V_aload_nt (dG D_X4_told 19 rfl) rfl ?_
  refine gf_X4_163 rfl (dG D_X4_told 20 rfl) (by assumption) ?_
  exact V_iret (dG D_X4_told 21 rfl) rfl (Nat.le_of_ble_eq_true rfl) (Nat.le_of_ble_eq_true rfl) ⟨rfl, rfl, rfl, rfl⟩
theorem ok_told3 (ht : tok nt t) (hW : WF nt C) : RET g K_X4_told 0 0 [.ref (ad g 0), .int t, .int 3] nt C M o (some (.int (toS C t.toNatClampNeg 3))) C M o := by
  refine MT_of (by decide +kernel) rfl rfl (Nat.le_of_ble_eq_true rfl) (by simp [cat_rf, cat_int, cat_ref]) (fun h => ?_)
  have hi40 := hW.n40
  have h33 : C 33 t.toNatClampNeg = t := (hW.x33 _ ht.2).trans (nI_self ht.1)
  have hin : inr t 40 t.toNatClampNeg := inr_of (fun q => q.elim ht.1 (fun z => absurd ht.2 (by omega)))
  have hlt : t < C 10 0 := by have q := hW.ltb ht.2; rw [nI_self ht.1] at q; exact q
  refine V_aload_n (dG D_X4_told 0 rfl) rfl ?_
  refine V_iload_n (dG D_X4_told 1 rfl) rfl ?_
  refine R_nb1 (ok_needTransaction ht.1 hlt) lk_X4_123 (dG D_X4_told 2 rfl) rcv_4 ⟨Nat.le_of_ble_eq_true rfl, Nat.le_of_ble_eq_true rfl⟩ ⟨(Nat.le_of_ble_eq_true rfl), (Nat.le_of_ble_eq_true rfl)⟩ (by first | exact Nat.le_of_ble_eq_true rfl | simp [cat_rf, cat_int, cat_ref]) (fun h => ?_)
  refine V_aload_n (dG D_X4_told 3 rfl) rfl ?_
  refine V_iload_n (dG D_X4_told 4 rfl) rfl ?_
  refine R_nb1 (ok_needWhat (x := 3) (by decide) (by decide)) lk_X4_192 (dG D_X4_told 5 rfl) rcv_4 ⟨Nat.le_of_ble_eq_true rfl, Nat.le_of_ble_eq_true rfl⟩ ⟨(Nat.le_of_ble_eq_true rfl), (Nat.le_of_ble_eq_true rfl)⟩ (by first | exact Nat.le_of_ble_eq_true rfl | simp [cat_rf, cat_int, cat_ref]) (fun h => ?_)
  refine V_aload_n (dG D_X4_told 6 rfl) rfl ?_
  refine gf_X4_23 rfl (dG D_X4_told 7 rfl) ?_
  refine V_iload_n (dG D_X4_told 8 rfl) rfl ?_
  refine aald_trs (dG D_X4_told 9 rfl) hin ?_
  rw [h33]
  refine V_astore_nt (dG D_X4_told 10 rfl) (Nat.le_of_ble_eq_true rfl) ?_
  refine V_iload_n (dG D_X4_told 11 rfl) rfl ?_
  refine V_tabIn (off := 53) (tgt := 71) (dG D_X4_told 12 rfl) (by decide) (by decide) rfl (by decide) ?_
  refine V_aload_nt (dG D_X4_told 22 rfl) rfl ?_
  refine R_vt0 (by assumption) (ok_waitsFor ht (hW.aw _ ht.2)) lk_X4_195 (dG D_X4_told 23 rfl) ⟨Nat.le_of_ble_eq_true rfl, Nat.le_of_ble_eq_true rfl⟩ ⟨(Nat.le_of_ble_eq_true rfl), (Nat.le_of_ble_eq_true rfl)⟩ (by first | exact Nat.le_of_ble_eq_true rfl | simp [cat_rf, cat_int, cat_ref]) (fun h => ?_)
  refine V_ifnonnullt (tgt := 82) (dG D_X4_told 24 rfl) (by decide) (fun c_75 => ?_) (fun c_75 => ?_)
  · have hu := trv_tok (wf_trv hW.aw ht.2) c_75
    rw [show toS C t.toNatClampNeg 3 = C 11 (wfS C t.toNatClampNeg).toNatClampNeg from if_neg c_75]
    refine V_aload_nt (dG D_X4_told 27 rfl) rfl ?_
    refine R_vt0 (by assumption) (ok_waitsFor ht (hW.aw _ ht.2)) lk_X4_195 (dG D_X4_told 28 rfl) ⟨Nat.le_of_ble_eq_true rfl, Nat.le_of_ble_eq_true rfl⟩ ⟨(Nat.le_of_ble_eq_true rfl), (Nat.le_of_ble_eq_true rfl)⟩ (by first | exact Nat.le_of_ble_eq_true rfl | simp [cat_rf, cat_int, cat_ref]) (fun h => ?_)
    refine gf_X4_199 rfl (dG D_X4_told 29 rfl) hu ?_
    exact V_iret (dG D_X4_told 30 rfl) rfl (Nat.le_of_ble_eq_true rfl) (Nat.le_of_ble_eq_true rfl) ⟨rfl, rfl, rfl, rfl⟩
  · rw [show toS C t.toNatClampNeg 3 = -1 from if_pos c_75]
    refine V_iconst (v := -1) (dG D_X4_told 25 rfl) (by decide) ?_
    refine V_goto (tgt := 89) (dG D_X4_told 26 rfl) (by decide) ?_
    exact V_iret (dG D_X4_told 30 rfl) rfl (Nat.le_of_ble_eq_true rfl) (Nat.le_of_ble_eq_true rfl) ⟨rfl, rfl, rfl, rfl⟩
theorem ok_told4 (ht : tok nt t) (hW : WF nt C) : RET g K_X4_told 0 0 [.ref (ad g 0), .int t, .int 4] nt C M o (some (.int (toS C t.toNatClampNeg 4))) C M o := by
  refine MT_of (by decide +kernel) rfl rfl (Nat.le_of_ble_eq_true rfl) (by simp [cat_rf, cat_int, cat_ref]) (fun h => ?_)
  have hi40 := hW.n40
  have h33 : C 33 t.toNatClampNeg = t := (hW.x33 _ ht.2).trans (nI_self ht.1)
  have hin : inr t 40 t.toNatClampNeg := inr_of (fun q => q.elim ht.1 (fun z => absurd ht.2 (by omega)))
  have hlt : t < C 10 0 := by have q := hW.ltb ht.2; rw [nI_self ht.1] at q; exact q
  refine V_aload_n (dG D_X4_told 0 rfl) rfl ?_
  refine V_iload_n (dG D_X4_told 1 rfl) rfl ?_
  refine R_nb1 (ok_needTransaction ht.1 hlt) lk_X4_123 (dG D_X4_told 2 rfl) rcv_4 ⟨Nat.le_of_ble_eq_true rfl, Nat.le_of_ble_eq_true rfl⟩ ⟨(Nat.le_of_ble_eq_true rfl), (Nat.le_of_ble_eq_true rfl)⟩ (by first | exact Nat.le_of_ble_eq_true rfl | simp [cat_rf, cat_int, cat_ref]) (fun h => ?_)
  refine V_aload_n (dG D_X4_told 3 rfl) rfl ?_
  refine V_iload_n (dG D_X4_told 4 rfl) rfl ?_
  refine R_nb1 (ok_needWhat (x := 4) (by decide) (by decide)) lk_X4_192 (dG D_X4_told 5 rfl) rcv_4 ⟨Nat.le_of_ble_eq_true rfl, Nat.le_of_ble_eq_true rfl⟩ ⟨(Nat.le_of_ble_eq_true rfl), (Nat.le_of_ble_eq_true rfl)⟩ (by first | exact Nat.le_of_ble_eq_true rfl | simp [cat_rf, cat_int, cat_ref]) (fun h => ?_)
  refine V_aload_n (dG D_X4_told 6 rfl) rfl ?_
  refine gf_X4_23 rfl (dG D_X4_told 7 rfl) ?_
  refine V_iload_n (dG D_X4_told 8 rfl) rfl ?_
  refine aald_trs (dG D_X4_told 9 rfl) hin ?_
  rw [h33]
  refine V_astore_nt (dG D_X4_told 10 rfl) (Nat.le_of_ble_eq_true rfl) ?_
  refine V_iload_n (dG D_X4_told 11 rfl) rfl ?_
  refine V_tabIn (off := 72) (tgt := 90) (dG D_X4_told 12 rfl) (by decide) (by decide) rfl (by decide) ?_
  refine V_aload_nt (dG D_X4_told 31 rfl) rfl ?_
  refine gf_X4_202 rfl (dG D_X4_told 32 rfl) (by assumption) ?_
  refine R_vs1 ok_bitCount lk_X4_205 (dG D_X4_told 33 rfl) ⟨Nat.le_of_ble_eq_true rfl, Nat.le_of_ble_eq_true rfl⟩ ⟨(Nat.le_of_ble_eq_true rfl), (Nat.le_of_ble_eq_true rfl)⟩ (by first | exact Nat.le_of_ble_eq_true rfl | simp [cat_rf, cat_int, cat_ref]) (fun h => ?_)
  exact V_iret (dG D_X4_told 34 rfl) rfl (Nat.le_of_ble_eq_true rfl) (Nat.le_of_ble_eq_true rfl) ⟨rfl, rfl, rfl, rfl⟩
theorem ok_told5 (ht : tok nt t) (hW : WF nt C) : RET g K_X4_told 0 0 [.ref (ad g 0), .int t, .int 5] nt C M o (some (.int (toS C t.toNatClampNeg 5))) C M o := by
  refine MT_of (by decide +kernel) rfl rfl (Nat.le_of_ble_eq_true rfl) (by simp [cat_rf, cat_int, cat_ref]) (fun h => ?_)
  have hi40 := hW.n40
  have h33 : C 33 t.toNatClampNeg = t := (hW.x33 _ ht.2).trans (nI_self ht.1)
  have hin : inr t 40 t.toNatClampNeg := inr_of (fun q => q.elim ht.1 (fun z => absurd ht.2 (by omega)))
  have hlt : t < C 10 0 := by have q := hW.ltb ht.2; rw [nI_self ht.1] at q; exact q
  refine V_aload_n (dG D_X4_told 0 rfl) rfl ?_
  refine V_iload_n (dG D_X4_told 1 rfl) rfl ?_
  refine R_nb1 (ok_needTransaction ht.1 hlt) lk_X4_123 (dG D_X4_told 2 rfl) rcv_4 ⟨Nat.le_of_ble_eq_true rfl, Nat.le_of_ble_eq_true rfl⟩ ⟨(Nat.le_of_ble_eq_true rfl), (Nat.le_of_ble_eq_true rfl)⟩ (by first | exact Nat.le_of_ble_eq_true rfl | simp [cat_rf, cat_int, cat_ref]) (fun h => ?_)
  refine V_aload_n (dG D_X4_told 3 rfl) rfl ?_
  refine V_iload_n (dG D_X4_told 4 rfl) rfl ?_
  refine R_nb1 (ok_needWhat (x := 5) (by decide) (by decide)) lk_X4_192 (dG D_X4_told 5 rfl) rcv_4 ⟨Nat.le_of_ble_eq_true rfl, Nat.le_of_ble_eq_true rfl⟩ ⟨(Nat.le_of_ble_eq_true rfl), (Nat.le_of_ble_eq_true rfl)⟩ (by first | exact Nat.le_of_ble_eq_true rfl | simp [cat_rf, cat_int, cat_ref]) (fun h => ?_)
  refine V_aload_n (dG D_X4_told 6 rfl) rfl ?_
  refine gf_X4_23 rfl (dG D_X4_told 7 rfl) ?_
  refine V_iload_n (dG D_X4_told 8 rfl) rfl ?_
  refine aald_trs (dG D_X4_told 9 rfl) hin ?_
  rw [h33]
  refine V_astore_nt (dG D_X4_told 10 rfl) (Nat.le_of_ble_eq_true rfl) ?_
  refine V_iload_n (dG D_X4_told 11 rfl) rfl ?_
  refine V_tabIn (off := 80) (tgt := 98) (dG D_X4_told 12 rfl) (by decide) (by decide) rfl (by decide) ?_
  refine V_aload_nt (dG D_X4_told 35 rfl) rfl ?_
  refine gf_X4_160 rfl (dG D_X4_told 36 rfl) (by assumption) ?_
  refine R_vs1 ok_bitCount lk_X4_205 (dG D_X4_told 37 rfl) ⟨Nat.le_of_ble_eq_true rfl, Nat.le_of_ble_eq_true rfl⟩ ⟨(Nat.le_of_ble_eq_true rfl), (Nat.le_of_ble_eq_true rfl)⟩ (by first | exact Nat.le_of_ble_eq_true rfl | simp [cat_rf, cat_int, cat_ref]) (fun h => ?_)
  exact V_iret (dG D_X4_told 38 rfl) rfl (Nat.le_of_ble_eq_true rfl) (Nat.le_of_ble_eq_true rfl) ⟨rfl, rfl, rfl, rfl⟩
theorem ok_told6 (ht : tok nt t) (hW : WF nt C) : RET g K_X4_told 0 0 [.ref (ad g 0), .int t, .int 6] nt C M o (some (.int (toS C t.toNatClampNeg 6))) C M o := by
  refine MT_of (by decide +kernel) rfl rfl (Nat.le_of_ble_eq_true rfl) (by simp [cat_rf, cat_int, cat_ref]) (fun h => ?_)
  have hi40 := hW.n40
  have h33 : C 33 t.toNatClampNeg = t := (hW.x33 _ ht.2).trans (nI_self ht.1)
  have hin : inr t 40 t.toNatClampNeg := inr_of (fun q => q.elim ht.1 (fun z => absurd ht.2 (by omega)))
  have hlt : t < C 10 0 := by have q := hW.ltb ht.2; rw [nI_self ht.1] at q; exact q
  refine V_aload_n (dG D_X4_told 0 rfl) rfl ?_
  refine V_iload_n (dG D_X4_told 1 rfl) rfl ?_
  refine R_nb1 (ok_needTransaction ht.1 hlt) lk_X4_123 (dG D_X4_told 2 rfl) rcv_4 ⟨Nat.le_of_ble_eq_true rfl, Nat.le_of_ble_eq_true rfl⟩ ⟨(Nat.le_of_ble_eq_true rfl), (Nat.le_of_ble_eq_true rfl)⟩ (by first | exact Nat.le_of_ble_eq_true rfl | simp [cat_rf, cat_int, cat_ref]) (fun h => ?_)
  refine V_aload_n (dG D_X4_told 3 rfl) rfl ?_
  refine V_iload_n (dG D_X4_told 4 rfl) rfl ?_
  refine R_nb1 (ok_needWhat (x := 6) (by decide) (by decide)) lk_X4_192 (dG D_X4_told 5 rfl) rcv_4 ⟨Nat.le_of_ble_eq_true rfl, Nat.le_of_ble_eq_true rfl⟩ ⟨(Nat.le_of_ble_eq_true rfl), (Nat.le_of_ble_eq_true rfl)⟩ (by first | exact Nat.le_of_ble_eq_true rfl | simp [cat_rf, cat_int, cat_ref]) (fun h => ?_)
  refine V_aload_n (dG D_X4_told 6 rfl) rfl ?_
  refine gf_X4_23 rfl (dG D_X4_told 7 rfl) ?_
  refine V_iload_n (dG D_X4_told 8 rfl) rfl ?_
  refine aald_trs (dG D_X4_told 9 rfl) hin ?_
  rw [h33]
  refine V_astore_nt (dG D_X4_told 10 rfl) (Nat.le_of_ble_eq_true rfl) ?_
  refine V_iload_n (dG D_X4_told 11 rfl) rfl ?_
  refine V_tabOut (tgt := 106) (dG D_X4_told 12 rfl) (by decide) (by decide) ?_
  refine V_aload_nt (dG D_X4_told 39 rfl) rfl ?_
  refine V_aload_n (dG D_X4_told 40 rfl) rfl ?_
  refine gf_X4_47 rfl (dG D_X4_told 41 rfl) ?_
  refine R_vt1 (by assumption) (ok_isVanished ht) lk_X4_210 (dG D_X4_told 42 rfl) ⟨Nat.le_of_ble_eq_true rfl, Nat.le_of_ble_eq_true rfl⟩ ⟨(Nat.le_of_ble_eq_true rfl), (Nat.le_of_ble_eq_true rfl)⟩ (by first | exact Nat.le_of_ble_eq_true rfl | simp [cat_rf, cat_int, cat_ref]) (fun h => ?_)
  refine V_if_eq (tgt := 121) (dG D_X4_told 43 rfl) (by decide) (fun c_114 => ?_) (fun c_114 => ?_)
  · rw [show toS C t.toNatClampNeg 6 = 0 from if_pos c_114]
    refine V_iconst (v := 0) (dG D_X4_told 46 rfl) (by decide) ?_
    exact V_iret (dG D_X4_told 47 rfl) rfl (Nat.le_of_ble_eq_true rfl) (Nat.le_of_ble_eq_true rfl) ⟨rfl, rfl, rfl, rfl⟩
  · rw [show toS C t.toNatClampNeg 6 = 1 from if_neg c_114]
    refine V_iconst (v := 1) (dG D_X4_told 44 rfl) (by decide) ?_
    refine V_goto (tgt := 122) (dG D_X4_told 45 rfl) (by decide) ?_
    exact V_iret (dG D_X4_told 47 rfl) rfl (Nat.le_of_ble_eq_true rfl) (Nat.le_of_ble_eq_true rfl) ⟨rfl, rfl, rfl, rfl⟩
theorem th_told1 {x y : Int32} (h0 : x < 0 ∨ ¬ x < C 10 0) : THR g K_X4_told 1 6 [.ref (ad g 0), .int x, .int y] nt C M o "java/lang/IndexOutOfBoundsException" := by
  refine MT_of (by decide +kernel) rfl rfl (Nat.le_of_ble_eq_true rfl) (by simp [cat_rf, cat_int, cat_ref]) (fun h => ?_)
  refine V_aload_n (dG D_X4_told 0 rfl) rfl ?_
  refine V_iload_n (dG D_X4_told 1 rfl) rfl ?_
  exact T_b1 (th_needTransaction h0) lk_X4_123 (dG D_X4_told 2 rfl) rcv_4 ⟨Nat.le_of_ble_eq_true rfl, Nat.le_of_ble_eq_true rfl⟩ ⟨(Nat.le_of_ble_eq_true rfl), (Nat.le_of_ble_eq_true rfl)⟩ (by first | exact Nat.le_of_ble_eq_true rfl | simp [cat_rf, cat_int, cat_ref]) (fun h => VX_out rfl (Nat.le_of_ble_eq_true rfl) (Nat.le_of_ble_eq_true rfl) ⟨rfl, rfl, rfl, rfl⟩)
theorem th_told2 {x y : Int32} (h1 : ¬ x < 0) (h2 : x < C 10 0) (h0 : y < 0 ∨ ¬ y ≤ 6) : THR g K_X4_told 1 6 [.ref (ad g 0), .int x, .int y] nt C M o "java/lang/IllegalArgumentException" := by
  refine MT_of (by decide +kernel) rfl rfl (Nat.le_of_ble_eq_true rfl) (by simp [cat_rf, cat_int, cat_ref]) (fun h => ?_)
  refine V_aload_n (dG D_X4_told 0 rfl) rfl ?_
  refine V_iload_n (dG D_X4_told 1 rfl) rfl ?_
  refine R_nb1 (ok_needTransaction h1 h2) lk_X4_123 (dG D_X4_told 2 rfl) rcv_4 ⟨Nat.le_of_ble_eq_true rfl, Nat.le_of_ble_eq_true rfl⟩ ⟨(Nat.le_of_ble_eq_true rfl), (Nat.le_of_ble_eq_true rfl)⟩ (by first | exact Nat.le_of_ble_eq_true rfl | simp [cat_rf, cat_int, cat_ref]) (fun h => ?_)
  refine V_aload_n (dG D_X4_told 3 rfl) rfl ?_
  refine V_iload_n (dG D_X4_told 4 rfl) rfl ?_
  exact T_b1 (th_needWhat h0) lk_X4_192 (dG D_X4_told 5 rfl) rcv_4 ⟨Nat.le_of_ble_eq_true rfl, Nat.le_of_ble_eq_true rfl⟩ ⟨(Nat.le_of_ble_eq_true rfl), (Nat.le_of_ble_eq_true rfl)⟩ (by first | exact Nat.le_of_ble_eq_true rfl | simp [cat_rf, cat_int, cat_ref]) (fun h => VX_out rfl (Nat.le_of_ble_eq_true rfl) (Nat.le_of_ble_eq_true rfl) ⟨rfl, rfl, rfl, rfl⟩)
theorem ok_key0 {k : Nat} (hk : k < 32) (hW : WF nt C) : RET g K_X4_key 0 0 [.ref (ad g 0), .int (nI k), .int 0] nt C M o (some (.int (kyS C k 0))) C M o := by
  refine MT_of (by decide +kernel) rfl rfl (Nat.le_of_ble_eq_true rfl) (by simp [cat_rf, cat_int, cat_ref]) (fun h => ?_)
  refine V_aload_n (dG D_X4_key 0 rfl) rfl ?_
  refine V_iload_n (dG D_X4_key 1 rfl) rfl ?_
  refine R_nb1 (ok_needKey (nI_pos (by omega)) (nI_lt (b := 32) hk (by decide))) lk_X4_126 (dG D_X4_key 2 rfl) rcv_4 ⟨Nat.le_of_ble_eq_true rfl, Nat.le_of_ble_eq_true rfl⟩ ⟨(Nat.le_of_ble_eq_true rfl), (Nat.le_of_ble_eq_true rfl)⟩ (by first | exact Nat.le_of_ble_eq_true rfl | simp [cat_rf, cat_int, cat_ref]) (fun h => ?_)
  refine V_aload_n (dG D_X4_key 3 rfl) rfl ?_
  refine V_iload_n (dG D_X4_key 4 rfl) rfl ?_
  refine R_nb1 (ok_needWhat (x := 0) (by decide) (by decide)) lk_X4_192 (dG D_X4_key 5 rfl) rcv_4 ⟨Nat.le_of_ble_eq_true rfl, Nat.le_of_ble_eq_true rfl⟩ ⟨(Nat.le_of_ble_eq_true rfl), (Nat.le_of_ble_eq_true rfl)⟩ (by first | exact Nat.le_of_ble_eq_true rfl | simp [cat_rf, cat_int, cat_ref]) (fun h => ?_)
  refine V_aload_n (dG D_X4_key 6 rfl) rfl ?_
  refine gf_X4_17 rfl (dG D_X4_key 7 rfl) ?_
  refine V_iload_n (dG D_X4_key 8 rfl) rfl ?_
  refine aald_cells (dG D_X4_key 9 rfl) (inr_nI hk (by decide)) ?_
  refine V_astore_n (dG D_X4_key 10 rfl) (Nat.le_of_ble_eq_true rfl) ?_
  refine V_iload_n (dG D_X4_key 11 rfl) rfl ?_
  refine V_tabIn (off := 38) (tgt := 56) (dG D_X4_key 12 rfl) (by decide) (by decide) rfl (by decide) ?_
  refine V_aload_n (dG D_X4_key 13 rfl) rfl ?_
  refine gf_X4_30 rfl (dG D_X4_key 14 rfl) ?_
  refine V_iload_n (dG D_X4_key 15 rfl) rfl ?_
  refine R_vb1 (ok_countOf hW.cnn.2.2.1 hW.cnn.1 hW.cnn.2.1) lk_X4_214 (dG D_X4_key 16 rfl) rcv_1 ⟨Nat.le_of_ble_eq_true rfl, Nat.le_of_ble_eq_true rfl⟩ ⟨(Nat.le_of_ble_eq_true rfl), (Nat.le_of_ble_eq_true rfl)⟩ (by first | exact Nat.le_of_ble_eq_true rfl | simp [cat_rf, cat_int, cat_ref]) (fun h => ?_)
  exact V_iret (dG D_X4_key 17 rfl) rfl (Nat.le_of_ble_eq_true rfl) (Nat.le_of_ble_eq_true rfl) ⟨rfl, rfl, rfl, rfl⟩
theorem ok_key1 {k : Nat} (hk : k < 32) (hW : WF nt C) : RET g K_X4_key 0 0 [.ref (ad g 0), .int (nI k), .int 1] nt C M o (some (.int (kyS C k 1))) C M o := by
  refine MT_of (by decide +kernel) rfl rfl (Nat.le_of_ble_eq_true rfl) (by simp [cat_rf, cat_int, cat_ref]) (fun h => ?_)
  refine V_aload_n (dG D_X4_key 0 rfl) rfl ?_
  refine V_iload_n (dG D_X4_key 1 rfl) rfl ?_
  refine R_nb1 (ok_needKey (nI_pos (by omega)) (nI_lt (b := 32) hk (by decide))) lk_X4_126 (dG D_X4_key 2 rfl) rcv_4 ⟨Nat.le_of_ble_eq_true rfl, Nat.le_of_ble_eq_true rfl⟩ ⟨(Nat.le_of_ble_eq_true rfl), (Nat.le_of_ble_eq_true rfl)⟩ (by first | exact Nat.le_of_ble_eq_true rfl | simp [cat_rf, cat_int, cat_ref]) (fun h => ?_)
  refine V_aload_n (dG D_X4_key 3 rfl) rfl ?_
  refine V_iload_n (dG D_X4_key 4 rfl) rfl ?_
  refine R_nb1 (ok_needWhat (x := 1) (by decide) (by decide)) lk_X4_192 (dG D_X4_key 5 rfl) rcv_4 ⟨Nat.le_of_ble_eq_true rfl, Nat.le_of_ble_eq_true rfl⟩ ⟨(Nat.le_of_ble_eq_true rfl), (Nat.le_of_ble_eq_true rfl)⟩ (by first | exact Nat.le_of_ble_eq_true rfl | simp [cat_rf, cat_int, cat_ref]) (fun h => ?_)
  refine V_aload_n (dG D_X4_key 6 rfl) rfl ?_
  refine gf_X4_17 rfl (dG D_X4_key 7 rfl) ?_
  refine V_iload_n (dG D_X4_key 8 rfl) rfl ?_
  refine aald_cells (dG D_X4_key 9 rfl) (inr_nI hk (by decide)) ?_
  refine V_astore_n (dG D_X4_key 10 rfl) (Nat.le_of_ble_eq_true rfl) ?_
  refine V_iload_n (dG D_X4_key 11 rfl) rfl ?_
  refine V_tabIn (off := 47) (tgt := 65) (dG D_X4_key 12 rfl) (by decide) (by decide) rfl (by decide) ?_
  refine V_aload_n (dG D_X4_key 18 rfl) rfl ?_
  refine gf_X4_82 rfl (dG D_X4_key 19 rfl) (by first | assumption | omega) ?_
  refine V_ifnonnullt (tgt := 76) (dG D_X4_key 20 rfl) (by decide) (fun c_69 => ?_) (fun c_69 => ?_)
  · have hu := trv_tok (hW.wo k hk) c_69
    rw [show kyS C k 1 = C 11 (C 6 k).toNatClampNeg from if_neg c_69]
    refine V_aload_n (dG D_X4_key 23 rfl) rfl ?_
    refine gf_X4_82 rfl (dG D_X4_key 24 rfl) (by first | assumption | omega) ?_
    refine gf_X4_199 rfl (dG D_X4_key 25 rfl) hu ?_
    exact V_iret (dG D_X4_key 26 rfl) rfl (Nat.le_of_ble_eq_true rfl) (Nat.le_of_ble_eq_true rfl) ⟨rfl, rfl, rfl, rfl⟩
  · rw [show kyS C k 1 = -1 from if_pos c_69]
    refine V_iconst (v := -1) (dG D_X4_key 21 rfl) (by decide) ?_
    refine V_goto (tgt := 83) (dG D_X4_key 22 rfl) (by decide) ?_
    exact V_iret (dG D_X4_key 26 rfl) rfl (Nat.le_of_ble_eq_true rfl) (Nat.le_of_ble_eq_true rfl) ⟨rfl, rfl, rfl, rfl⟩
theorem ok_key2 {k : Nat} (hk : k < 32) (hW : WF nt C) : RET g K_X4_key 0 0 [.ref (ad g 0), .int (nI k), .int 2] nt C M o (some (.int (kyS C k 2))) C M o := by
  refine MT_of (by decide +kernel) rfl rfl (Nat.le_of_ble_eq_true rfl) (by simp [cat_rf, cat_int, cat_ref]) (fun h => ?_)
  refine V_aload_n (dG D_X4_key 0 rfl) rfl ?_
  refine V_iload_n (dG D_X4_key 1 rfl) rfl ?_
  refine R_nb1 (ok_needKey (nI_pos (by omega)) (nI_lt (b := 32) hk (by decide))) lk_X4_126 (dG D_X4_key 2 rfl) rcv_4 ⟨Nat.le_of_ble_eq_true rfl, Nat.le_of_ble_eq_true rfl⟩ ⟨(Nat.le_of_ble_eq_true rfl), (Nat.le_of_ble_eq_true rfl)⟩ (by first | exact Nat.le_of_ble_eq_true rfl | simp [cat_rf, cat_int, cat_ref]) (fun h => ?_)
  refine V_aload_n (dG D_X4_key 3 rfl) rfl ?_
  refine V_iload_n (dG D_X4_key 4 rfl) rfl ?_
  refine R_nb1 (ok_needWhat (x := 2) (by decide) (by decide)) lk_X4_192 (dG D_X4_key 5 rfl) rcv_4 ⟨Nat.le_of_ble_eq_true rfl, Nat.le_of_ble_eq_true rfl⟩ ⟨(Nat.le_of_ble_eq_true rfl), (Nat.le_of_ble_eq_true rfl)⟩ (by first | exact Nat.le_of_ble_eq_true rfl | simp [cat_rf, cat_int, cat_ref]) (fun h => ?_)
  refine V_aload_n (dG D_X4_key 6 rfl) rfl ?_
  refine gf_X4_17 rfl (dG D_X4_key 7 rfl) ?_
  refine V_iload_n (dG D_X4_key 8 rfl) rfl ?_
  refine aald_cells (dG D_X4_key 9 rfl) (inr_nI hk (by decide)) ?_
  refine V_astore_n (dG D_X4_key 10 rfl) (Nat.le_of_ble_eq_true rfl) ?_
  refine V_iload_n (dG D_X4_key 11 rfl) rfl ?_
  refine V_tabIn (off := 66) (tgt := 84) (dG D_X4_key 12 rfl) (by decide) (by decide) rfl (by decide) ?_
  refine V_aload_n (dG D_X4_key 27 rfl) rfl ?_
  refine gf_X4_217 rfl (dG D_X4_key 28 rfl) (by first | assumption | omega) ?_
  exact V_iret (dG D_X4_key 29 rfl) rfl (Nat.le_of_ble_eq_true rfl) (Nat.le_of_ble_eq_true rfl) ⟨rfl, rfl, rfl, rfl⟩
theorem ok_key3 {k : Nat} (hk : k < 32) (hW : WF nt C) : RET g K_X4_key 0 0 [.ref (ad g 0), .int (nI k), .int 3] nt C M o (some (.int (kyS C k 3))) C M o := by
  refine MT_of (by decide +kernel) rfl rfl (Nat.le_of_ble_eq_true rfl) (by simp [cat_rf, cat_int, cat_ref]) (fun h => ?_)
  refine V_aload_n (dG D_X4_key 0 rfl) rfl ?_
  refine V_iload_n (dG D_X4_key 1 rfl) rfl ?_
  refine R_nb1 (ok_needKey (nI_pos (by omega)) (nI_lt (b := 32) hk (by decide))) lk_X4_126 (dG D_X4_key 2 rfl) rcv_4 ⟨Nat.le_of_ble_eq_true rfl, Nat.le_of_ble_eq_true rfl⟩ ⟨(Nat.le_of_ble_eq_true rfl), (Nat.le_of_ble_eq_true rfl)⟩ (by first | exact Nat.le_of_ble_eq_true rfl | simp [cat_rf, cat_int, cat_ref]) (fun h => ?_)
  refine V_aload_n (dG D_X4_key 3 rfl) rfl ?_
  refine V_iload_n (dG D_X4_key 4 rfl) rfl ?_
  refine R_nb1 (ok_needWhat (x := 3) (by decide) (by decide)) lk_X4_192 (dG D_X4_key 5 rfl) rcv_4 ⟨Nat.le_of_ble_eq_true rfl, Nat.le_of_ble_eq_true rfl⟩ ⟨(Nat.le_of_ble_eq_true rfl), (Nat.le_of_ble_eq_true rfl)⟩ (by first | exact Nat.le_of_ble_eq_true rfl | simp [cat_rf, cat_int, cat_ref]) (fun h => ?_)
  refine V_aload_n (dG D_X4_key 6 rfl) rfl ?_
  refine gf_X4_17 rfl (dG D_X4_key 7 rfl) ?_
  refine V_iload_n (dG D_X4_key 8 rfl) rfl ?_
  refine aald_cells (dG D_X4_key 9 rfl) (inr_nI hk (by decide)) ?_
  refine V_astore_n (dG D_X4_key 10 rfl) (Nat.le_of_ble_eq_true rfl) ?_
  refine V_iload_n (dG D_X4_key 11 rfl) rfl ?_
  refine V_tabIn (off := 71) (tgt := 89) (dG D_X4_key 12 rfl) (by decide) (by decide) rfl (by decide) ?_
  refine V_aload_n (dG D_X4_key 30 rfl) rfl ?_
  refine gf_X4_218 rfl (dG D_X4_key 31 rfl) (by first | assumption | omega) ?_
  exact V_iret (dG D_X4_key 32 rfl) rfl (Nat.le_of_ble_eq_true rfl) (Nat.le_of_ble_eq_true rfl) ⟨rfl, rfl, rfl, rfl⟩
theorem ok_key4 {k : Nat} (hk : k < 32) (hW : WF nt C) : RET g K_X4_key 0 0 [.ref (ad g 0), .int (nI k), .int 4] nt C M o (some (.int (kyS C k 4))) C M o := by
  refine MT_of (by decide +kernel) rfl rfl (Nat.le_of_ble_eq_true rfl) (by simp [cat_rf, cat_int, cat_ref]) (fun h => ?_)
  refine V_aload_n (dG D_X4_key 0 rfl) rfl ?_
  refine V_iload_n (dG D_X4_key 1 rfl) rfl ?_
  refine R_nb1 (ok_needKey (nI_pos (by omega)) (nI_lt (b := 32) hk (by decide))) lk_X4_126 (dG D_X4_key 2 rfl) rcv_4 ⟨Nat.le_of_ble_eq_true rfl, Nat.le_of_ble_eq_true rfl⟩ ⟨(Nat.le_of_ble_eq_true rfl), (Nat.le_of_ble_eq_true rfl)⟩ (by first | exact Nat.le_of_ble_eq_true rfl | simp [cat_rf, cat_int, cat_ref]) (fun h => ?_)
  refine V_aload_n (dG D_X4_key 3 rfl) rfl ?_
  refine V_iload_n (dG D_X4_key 4 rfl) rfl ?_
  refine R_nb1 (ok_needWhat (x := 4) (by decide) (by decide)) lk_X4_192 (dG D_X4_key 5 rfl) rcv_4 ⟨Nat.le_of_ble_eq_true rfl, Nat.le_of_ble_eq_true rfl⟩ ⟨(Nat.le_of_ble_eq_true rfl), (Nat.le_of_ble_eq_true rfl)⟩ (by first | exact Nat.le_of_ble_eq_true rfl | simp [cat_rf, cat_int, cat_ref]) (fun h => ?_)
  refine V_aload_n (dG D_X4_key 6 rfl) rfl ?_
  refine gf_X4_17 rfl (dG D_X4_key 7 rfl) ?_
  refine V_iload_n (dG D_X4_key 8 rfl) rfl ?_
  refine aald_cells (dG D_X4_key 9 rfl) (inr_nI hk (by decide)) ?_
  refine V_astore_n (dG D_X4_key 10 rfl) (Nat.le_of_ble_eq_true rfl) ?_
  refine V_iload_n (dG D_X4_key 11 rfl) rfl ?_
  refine V_tabIn (off := 76) (tgt := 94) (dG D_X4_key 12 rfl) (by decide) (by decide) rfl (by decide) ?_
  refine V_aload_n (dG D_X4_key 33 rfl) rfl ?_
  refine V_iload_n (dG D_X4_key 34 rfl) rfl ?_
  refine R_vb1 (ok_rangeOf hk) lk_X4_101 (dG D_X4_key 35 rfl) rcv_4 ⟨Nat.le_of_ble_eq_true rfl, Nat.le_of_ble_eq_true rfl⟩ ⟨(Nat.le_of_ble_eq_true rfl), (Nat.le_of_ble_eq_true rfl)⟩ (by first | exact Nat.le_of_ble_eq_true rfl | simp [cat_rf, cat_int, cat_ref]) (fun h => ?_)
  exact V_iret (dG D_X4_key 36 rfl) rfl (Nat.le_of_ble_eq_true rfl) (Nat.le_of_ble_eq_true rfl) ⟨rfl, rfl, rfl, rfl⟩
theorem ok_key5 {k : Nat} (hk : k < 32) (hW : WF nt C) : RET g K_X4_key 0 0 [.ref (ad g 0), .int (nI k), .int 5] nt C M o (some (.int (kyS C k 5))) C M o := by
  refine MT_of (by decide +kernel) rfl rfl (Nat.le_of_ble_eq_true rfl) (by simp [cat_rf, cat_int, cat_ref]) (fun h => ?_)
  refine V_aload_n (dG D_X4_key 0 rfl) rfl ?_
  refine V_iload_n (dG D_X4_key 1 rfl) rfl ?_
  refine R_nb1 (ok_needKey (nI_pos (by omega)) (nI_lt (b := 32) hk (by decide))) lk_X4_126 (dG D_X4_key 2 rfl) rcv_4 ⟨Nat.le_of_ble_eq_true rfl, Nat.le_of_ble_eq_true rfl⟩ ⟨(Nat.le_of_ble_eq_true rfl), (Nat.le_of_ble_eq_true rfl)⟩ (by first | exact Nat.le_of_ble_eq_true rfl | simp [cat_rf, cat_int, cat_ref]) (fun h => ?_)
  refine V_aload_n (dG D_X4_key 3 rfl) rfl ?_
  refine V_iload_n (dG D_X4_key 4 rfl) rfl ?_
  refine R_nb1 (ok_needWhat (x := 5) (by decide) (by decide)) lk_X4_192 (dG D_X4_key 5 rfl) rcv_4 ⟨Nat.le_of_ble_eq_true rfl, Nat.le_of_ble_eq_true rfl⟩ ⟨(Nat.le_of_ble_eq_true rfl), (Nat.le_of_ble_eq_true rfl)⟩ (by first | exact Nat.le_of_ble_eq_true rfl | simp [cat_rf, cat_int, cat_ref]) (fun h => ?_)
  refine V_aload_n (dG D_X4_key 6 rfl) rfl ?_
  refine gf_X4_17 rfl (dG D_X4_key 7 rfl) ?_
  refine V_iload_n (dG D_X4_key 8 rfl) rfl ?_
  refine aald_cells (dG D_X4_key 9 rfl) (inr_nI hk (by decide)) ?_
  refine V_astore_n (dG D_X4_key 10 rfl) (Nat.le_of_ble_eq_true rfl) ?_
  refine V_iload_n (dG D_X4_key 11 rfl) rfl ?_
  refine V_tabIn (off := 82) (tgt := 100) (dG D_X4_key 12 rfl) (by decide) (by decide) rfl (by decide) ?_
  refine V_aload_n (dG D_X4_key 37 rfl) rfl ?_
  refine gf_X4_79 rfl (dG D_X4_key 38 rfl) (by first | assumption | omega) ?_
  exact V_iret (dG D_X4_key 39 rfl) rfl (Nat.le_of_ble_eq_true rfl) (Nat.le_of_ble_eq_true rfl) ⟨rfl, rfl, rfl, rfl⟩
theorem ok_key6 {k : Nat} (hk : k < 32) (hW : WF nt C) : RET g K_X4_key 0 0 [.ref (ad g 0), .int (nI k), .int 6] nt C M o (some (.int (kyS C k 6))) C M o := by
  refine MT_of (by decide +kernel) rfl rfl (Nat.le_of_ble_eq_true rfl) (by simp [cat_rf, cat_int, cat_ref]) (fun h => ?_)
  refine V_aload_n (dG D_X4_key 0 rfl) rfl ?_
  refine V_iload_n (dG D_X4_key 1 rfl) rfl ?_
  refine R_nb1 (ok_needKey (nI_pos (by omega)) (nI_lt (b := 32) hk (by decide))) lk_X4_126 (dG D_X4_key 2 rfl) rcv_4 ⟨Nat.le_of_ble_eq_true rfl, Nat.le_of_ble_eq_true rfl⟩ ⟨(Nat.le_of_ble_eq_true rfl), (Nat.le_of_ble_eq_true rfl)⟩ (by first | exact Nat.le_of_ble_eq_true rfl | simp [cat_rf, cat_int, cat_ref]) (fun h => ?_)
  refine V_aload_n (dG D_X4_key 3 rfl) rfl ?_
  refine V_iload_n (dG D_X4_key 4 rfl) rfl ?_
  refine R_nb1 (ok_needWhat (x := 6) (by decide) (by decide)) lk_X4_192 (dG D_X4_key 5 rfl) rcv_4 ⟨Nat.le_of_ble_eq_true rfl, Nat.le_of_ble_eq_true rfl⟩ ⟨(Nat.le_of_ble_eq_true rfl), (Nat.le_of_ble_eq_true rfl)⟩ (by first | exact Nat.le_of_ble_eq_true rfl | simp [cat_rf, cat_int, cat_ref]) (fun h => ?_)
  refine V_aload_n (dG D_X4_key 6 rfl) rfl ?_
  refine gf_X4_17 rfl (dG D_X4_key 7 rfl) ?_
  refine V_iload_n (dG D_X4_key 8 rfl) rfl ?_
  refine aald_cells (dG D_X4_key 9 rfl) (inr_nI hk (by decide)) ?_
  refine V_astore_n (dG D_X4_key 10 rfl) (Nat.le_of_ble_eq_true rfl) ?_
  refine V_iload_n (dG D_X4_key 11 rfl) rfl ?_
  refine V_tabOut (tgt := 105) (dG D_X4_key 12 rfl) (by decide) (by decide) ?_
  refine V_aload_n (dG D_X4_key 40 rfl) rfl ?_
  refine gf_X4_82 rfl (dG D_X4_key 41 rfl) (by first | assumption | omega) ?_
  refine V_ifnullt (tgt := 123) (dG D_X4_key 42 rfl) (by decide) (fun c_109 => ?_) (fun c_109 => ?_)
  · rw [show kyS C k 6 = 0 from if_pos c_109]
    refine V_iconst (v := 0) (dG D_X4_key 48 rfl) (by decide) ?_
    exact V_iret (dG D_X4_key 49 rfl) rfl (Nat.le_of_ble_eq_true rfl) (Nat.le_of_ble_eq_true rfl) ⟨rfl, rfl, rfl, rfl⟩
  · skip
    refine V_aload_n (dG D_X4_key 43 rfl) rfl ?_
    refine gf_X4_86 rfl (dG D_X4_key 44 rfl) (by first | assumption | omega) ?_
    refine V_if_eq (tgt := 123) (dG D_X4_key 45 rfl) (by decide) (fun c_116 => ?_) (fun c_116 => ?_)
    · rw [show kyS C k 6 = 0 from (if_neg c_109).trans (if_pos c_116)]
      refine V_iconst (v := 0) (dG D_X4_key 48 rfl) (by decide) ?_
      exact V_iret (dG D_X4_key 49 rfl) rfl (Nat.le_of_ble_eq_true rfl) (Nat.le_of_ble_eq_true rfl) ⟨rfl, rfl, rfl, rfl⟩
    · rw [show kyS C k 6 = 1 from (if_neg c_109).trans (if_neg c_116)]
      refine V_iconst (v := 1) (dG D_X4_key 46 rfl) (by decide) ?_
      refine V_goto (tgt := 124) (dG D_X4_key 47 rfl) (by decide) ?_
      exact V_iret (dG D_X4_key 49 rfl) rfl (Nat.le_of_ble_eq_true rfl) (Nat.le_of_ble_eq_true rfl) ⟨rfl, rfl, rfl, rfl⟩
theorem th_key1 {x y : Int32} (h0 : x < 0 ∨ ¬ x < 32) : THR g K_X4_key 1 6 [.ref (ad g 0), .int x, .int y] nt C M o "java/lang/IndexOutOfBoundsException" := by
  refine MT_of (by decide +kernel) rfl rfl (Nat.le_of_ble_eq_true rfl) (by simp [cat_rf, cat_int, cat_ref]) (fun h => ?_)
  refine V_aload_n (dG D_X4_key 0 rfl) rfl ?_
  refine V_iload_n (dG D_X4_key 1 rfl) rfl ?_
  exact T_b1 (th_needKey h0) lk_X4_126 (dG D_X4_key 2 rfl) rcv_4 ⟨Nat.le_of_ble_eq_true rfl, Nat.le_of_ble_eq_true rfl⟩ ⟨(Nat.le_of_ble_eq_true rfl), (Nat.le_of_ble_eq_true rfl)⟩ (by first | exact Nat.le_of_ble_eq_true rfl | simp [cat_rf, cat_int, cat_ref]) (fun h => VX_out rfl (Nat.le_of_ble_eq_true rfl) (Nat.le_of_ble_eq_true rfl) ⟨rfl, rfl, rfl, rfl⟩)
theorem th_key2 {x y : Int32} (h1 : ¬ x < 0) (h2 : x < 32) (h0 : y < 0 ∨ ¬ y ≤ 6) : THR g K_X4_key 1 6 [.ref (ad g 0), .int x, .int y] nt C M o "java/lang/IllegalArgumentException" := by
  refine MT_of (by decide +kernel) rfl rfl (Nat.le_of_ble_eq_true rfl) (by simp [cat_rf, cat_int, cat_ref]) (fun h => ?_)
  refine V_aload_n (dG D_X4_key 0 rfl) rfl ?_
  refine V_iload_n (dG D_X4_key 1 rfl) rfl ?_
  refine R_nb1 (ok_needKey h1 h2) lk_X4_126 (dG D_X4_key 2 rfl) rcv_4 ⟨Nat.le_of_ble_eq_true rfl, Nat.le_of_ble_eq_true rfl⟩ ⟨(Nat.le_of_ble_eq_true rfl), (Nat.le_of_ble_eq_true rfl)⟩ (by first | exact Nat.le_of_ble_eq_true rfl | simp [cat_rf, cat_int, cat_ref]) (fun h => ?_)
  refine V_aload_n (dG D_X4_key 3 rfl) rfl ?_
  refine V_iload_n (dG D_X4_key 4 rfl) rfl ?_
  exact T_b1 (th_needWhat h0) lk_X4_192 (dG D_X4_key 5 rfl) rcv_4 ⟨Nat.le_of_ble_eq_true rfl, Nat.le_of_ble_eq_true rfl⟩ ⟨(Nat.le_of_ble_eq_true rfl), (Nat.le_of_ble_eq_true rfl)⟩ (by first | exact Nat.le_of_ble_eq_true rfl | simp [cat_rf, cat_int, cat_ref]) (fun h => VX_out rfl (Nat.le_of_ble_eq_true rfl) (Nat.le_of_ble_eq_true rfl) ⟨rfl, rfl, rfl, rfl⟩)
theorem ok_asOf {k : Nat} (hk : k < 32) (hW : WF nt C) {s : Int32} (h1 : ¬ s < 0) (h2 : s ≤ closedS C) : RET g K_X4_asOf 0 0 [.ref (ad g 0), .int (nI k), .int s] nt C M o (some (.int (aoS C k s))) C M o := by
  refine MT_of (by decide +kernel) rfl rfl (Nat.le_of_ble_eq_true rfl) (by simp [cat_rf, cat_int, cat_ref]) (fun h => ?_)
  refine V_aload_n (dG D_X4_asOf 0 rfl) rfl ?_
  refine V_iload_n (dG D_X4_asOf 1 rfl) rfl ?_
  refine R_nb1 (ok_needKey (nI_pos (by omega)) (nI_lt (b := 32) hk (by decide))) lk_X4_126 (dG D_X4_asOf 2 rfl) rcv_4 ⟨Nat.le_of_ble_eq_true rfl, Nat.le_of_ble_eq_true rfl⟩ ⟨(Nat.le_of_ble_eq_true rfl), (Nat.le_of_ble_eq_true rfl)⟩ (by first | exact Nat.le_of_ble_eq_true rfl | simp [cat_rf, cat_int, cat_ref]) (fun h => ?_)
  refine V_iload_n (dG D_X4_asOf 3 rfl) rfl ?_
  refine V_if_lt (tgt := 17) (dG D_X4_asOf 4 rfl) (by decide) (fun c_6 => absurd c_6 h1) (fun c_6 => ?_)
  refine V_iload_n (dG D_X4_asOf 5 rfl) rfl ?_
  refine V_aload_n (dG D_X4_asOf 6 rfl) rfl ?_
  refine R_vb0 ok_closedStamp lk_X4_72 (dG D_X4_asOf 7 rfl) rcv_4 ⟨Nat.le_of_ble_eq_true rfl, Nat.le_of_ble_eq_true rfl⟩ ⟨(Nat.le_of_ble_eq_true rfl), (Nat.le_of_ble_eq_true rfl)⟩ (by first | exact Nat.le_of_ble_eq_true rfl | simp [cat_rf, cat_int, cat_ref]) (fun h => ?_)
  refine V_icmp_le (tgt := 27) (dG D_X4_asOf 8 rfl) (by decide) (fun c_14 => ?_) (fun c_14 => absurd h2 c_14)
  refine V_aload_n (dG D_X4_asOf 14 rfl) rfl ?_
  refine gf_X4_17 rfl (dG D_X4_asOf 15 rfl) ?_
  refine V_iload_n (dG D_X4_asOf 16 rfl) rfl ?_
  refine aald_cells (dG D_X4_asOf 17 rfl) (inr_nI hk (by decide)) ?_
  refine gf_X4_82 rfl (dG D_X4_asOf 18 rfl) (by first | assumption | omega) ?_
  refine V_astore_nt (dG D_X4_asOf 19 rfl) (Nat.le_of_ble_eq_true rfl) ?_
  refine V_aload_nt (dG D_X4_asOf 20 rfl) rfl ?_
  refine V_ifnullt (tgt := 60) (dG D_X4_asOf 21 rfl) (by decide) (fun c_38 => ?_) (fun c_38 => ?_)
  · rw [show aoS C k s = vaX C (nI k) s from if_pos c_38]
    refine V_aload_n (dG D_X4_asOf 32 rfl) rfl ?_
    refine gf_X4_30 rfl (dG D_X4_asOf 33 rfl) ?_
    refine V_iload_n (dG D_X4_asOf 34 rfl) rfl ?_
    refine V_iload_n (dG D_X4_asOf 35 rfl) rfl ?_
    refine R_vb2 (okW_va hW) lk_X4_223 (dG D_X4_asOf 36 rfl) rcv_1 ⟨Nat.le_of_ble_eq_true rfl, Nat.le_of_ble_eq_true rfl⟩ ⟨(Nat.le_of_ble_eq_true rfl), (Nat.le_of_ble_eq_true rfl)⟩ (by first | exact Nat.le_of_ble_eq_true rfl | simp [cat_rf, cat_int, cat_ref]) (fun h => ?_)
    exact V_iret (dG D_X4_asOf 37 rfl) rfl (Nat.le_of_ble_eq_true rfl) (Nat.le_of_ble_eq_true rfl) ⟨rfl, rfl, rfl, rfl⟩
  · have hu := trv_tok (hW.wo k hk) c_38
    refine V_aload_nt (dG D_X4_asOf 22 rfl) rfl ?_
    refine gf_X4_147 rfl (dG D_X4_asOf 23 rfl) hu ?_
    refine V_iconst (v := 1) (dG D_X4_asOf 24 rfl) (by decide) ?_
    refine V_icmp_ne (tgt := 60) (dG D_X4_asOf 25 rfl) (by decide) (fun c_46 => ?_) (fun c_46 => ?_)
    · rw [show aoS C k s = vaX C (nI k) s from (if_neg c_38).trans (if_neg c_46)]
      refine V_aload_n (dG D_X4_asOf 32 rfl) rfl ?_
      refine gf_X4_30 rfl (dG D_X4_asOf 33 rfl) ?_
      refine V_iload_n (dG D_X4_asOf 34 rfl) rfl ?_
      refine V_iload_n (dG D_X4_asOf 35 rfl) rfl ?_
      refine R_vb2 (okW_va hW) lk_X4_223 (dG D_X4_asOf 36 rfl) rcv_1 ⟨Nat.le_of_ble_eq_true rfl, Nat.le_of_ble_eq_true rfl⟩ ⟨(Nat.le_of_ble_eq_true rfl), (Nat.le_of_ble_eq_true rfl)⟩ (by first | exact Nat.le_of_ble_eq_true rfl | simp [cat_rf, cat_int, cat_ref]) (fun h => ?_)
      exact V_iret (dG D_X4_asOf 37 rfl) rfl (Nat.le_of_ble_eq_true rfl) (Nat.le_of_ble_eq_true rfl) ⟨rfl, rfl, rfl, rfl⟩
    · skip
      refine V_aload_nt (dG D_X4_asOf 26 rfl) rfl ?_
      refine gf_X4_163 rfl (dG D_X4_asOf 27 rfl) hu ?_
      refine V_iload_n (dG D_X4_asOf 28 rfl) rfl ?_
      refine V_icmp_gt (tgt := 60) (dG D_X4_asOf 29 rfl) (by decide) (fun c_54 => ?_) (fun c_54 => ?_)
      · rw [show aoS C k s = vaX C (nI k) s from (if_neg c_38).trans ((if_pos c_46).trans (if_pos c_54))]
        refine V_aload_n (dG D_X4_asOf 32 rfl) rfl ?_
        refine gf_X4_30 rfl (dG D_X4_asOf 33 rfl) ?_
        refine V_iload_n (dG D_X4_asOf 34 rfl) rfl ?_
        refine V_iload_n (dG D_X4_asOf 35 rfl) rfl ?_
        refine R_vb2 (okW_va hW) lk_X4_223 (dG D_X4_asOf 36 rfl) rcv_1 ⟨Nat.le_of_ble_eq_true rfl, Nat.le_of_ble_eq_true rfl⟩ ⟨(Nat.le_of_ble_eq_true rfl), (Nat.le_of_ble_eq_true rfl)⟩ (by first | exact Nat.le_of_ble_eq_true rfl | simp [cat_rf, cat_int, cat_ref]) (fun h => ?_)
        exact V_iret (dG D_X4_asOf 37 rfl) rfl (Nat.le_of_ble_eq_true rfl) (Nat.le_of_ble_eq_true rfl) ⟨rfl, rfl, rfl, rfl⟩
      · rw [show aoS C k s = -11 from (if_neg c_38).trans ((if_pos c_46).trans (if_neg c_54))]
        refine V_bipush (v := -11) (dG D_X4_asOf 30 rfl) (by decide) ?_
        exact V_iret (dG D_X4_asOf 31 rfl) rfl (Nat.le_of_ble_eq_true rfl) (Nat.le_of_ble_eq_true rfl) ⟨rfl, rfl, rfl, rfl⟩
theorem th_asOf1 {x y : Int32} (h0 : x < 0 ∨ ¬ x < 32) : THR g K_X4_asOf 1 6 [.ref (ad g 0), .int x, .int y] nt C M o "java/lang/IndexOutOfBoundsException" := by
  refine MT_of (by decide +kernel) rfl rfl (Nat.le_of_ble_eq_true rfl) (by simp [cat_rf, cat_int, cat_ref]) (fun h => ?_)
  refine V_aload_n (dG D_X4_asOf 0 rfl) rfl ?_
  refine V_iload_n (dG D_X4_asOf 1 rfl) rfl ?_
  exact T_b1 (th_needKey h0) lk_X4_126 (dG D_X4_asOf 2 rfl) rcv_4 ⟨Nat.le_of_ble_eq_true rfl, Nat.le_of_ble_eq_true rfl⟩ ⟨(Nat.le_of_ble_eq_true rfl), (Nat.le_of_ble_eq_true rfl)⟩ (by first | exact Nat.le_of_ble_eq_true rfl | simp [cat_rf, cat_int, cat_ref]) (fun h => VX_out rfl (Nat.le_of_ble_eq_true rfl) (Nat.le_of_ble_eq_true rfl) ⟨rfl, rfl, rfl, rfl⟩)
theorem th_asOf2 {x y : Int32} (h1 : ¬ x < 0) (h2 : x < 32) (h0 : y < 0 ∨ ¬ y ≤ closedS C) : THR g K_X4_asOf 1 6 [.ref (ad g 0), .int x, .int y] nt C M o "java/lang/IllegalArgumentException" := by
  refine MT_of (by decide +kernel) rfl rfl (Nat.le_of_ble_eq_true rfl) (by simp [cat_rf, cat_int, cat_ref]) (fun h => ?_)
  refine V_aload_n (dG D_X4_asOf 0 rfl) rfl ?_
  refine V_iload_n (dG D_X4_asOf 1 rfl) rfl ?_
  refine R_nb1 (ok_needKey h1 h2) lk_X4_126 (dG D_X4_asOf 2 rfl) rcv_4 ⟨Nat.le_of_ble_eq_true rfl, Nat.le_of_ble_eq_true rfl⟩ ⟨(Nat.le_of_ble_eq_true rfl), (Nat.le_of_ble_eq_true rfl)⟩ (by first | exact Nat.le_of_ble_eq_true rfl | simp [cat_rf, cat_int, cat_ref]) (fun h => ?_)
  refine V_iload_n (dG D_X4_asOf 3 rfl) rfl ?_
  refine V_if_lt (tgt := 17) (dG D_X4_asOf 4 rfl) (by decide) (fun c_6 => ?_) (fun c_6 => ?_)
  · skip
    exact V_th44 (text := "a stamp is 0 to the closed stamp") rfl rfl (by decide +kernel) (dG D_X4_asOf 9 rfl) (dG D_X4_asOf 10 rfl) (dG D_X4_asOf 11 rfl) (dG D_X4_asOf 12 rfl) (dG D_X4_asOf 13 rfl) (Nat.le_of_ble_eq_true rfl) (Nat.le_of_ble_eq_true rfl) (Nat.le_of_ble_eq_true rfl) (Nat.le_of_ble_eq_true rfl) ⟨rfl, rfl, rfl, rfl⟩
  · skip
    refine V_iload_n (dG D_X4_asOf 5 rfl) rfl ?_
    refine V_aload_n (dG D_X4_asOf 6 rfl) rfl ?_
    refine R_vb0 ok_closedStamp lk_X4_72 (dG D_X4_asOf 7 rfl) rcv_4 ⟨Nat.le_of_ble_eq_true rfl, Nat.le_of_ble_eq_true rfl⟩ ⟨(Nat.le_of_ble_eq_true rfl), (Nat.le_of_ble_eq_true rfl)⟩ (by first | exact Nat.le_of_ble_eq_true rfl | simp [cat_rf, cat_int, cat_ref]) (fun h => ?_)
    refine V_icmp_le (tgt := 27) (dG D_X4_asOf 8 rfl) (by decide) (fun c_14 => absurd c_14 (h0.resolve_left c_6)) (fun c_14 => ?_)
    exact V_th44 (text := "a stamp is 0 to the closed stamp") rfl rfl (by decide +kernel) (dG D_X4_asOf 9 rfl) (dG D_X4_asOf 10 rfl) (dG D_X4_asOf 11 rfl) (dG D_X4_asOf 12 rfl) (dG D_X4_asOf 13 rfl) (Nat.le_of_ble_eq_true rfl) (Nat.le_of_ble_eq_true rfl) (Nat.le_of_ble_eq_true rfl) (Nat.le_of_ble_eq_true rfl) ⟨rfl, rfl, rfl, rfl⟩
theorem ok_resolved (hW : WF nt C) : RET g K_X4_resolved 0 0 [.ref (ad g 0)] nt C M o (some (.int (rsS C nt 0 (closedS C)))) C M o := by
  refine MT_of (by decide +kernel) rfl rfl (Nat.le_of_ble_eq_true rfl) (by simp [cat_rf, cat_int, cat_ref]) (fun h => ?_)
  refine V_aload_n (dG D_X4_resolved 0 rfl) rfl ?_
  refine R_vb0 (okC_resolved hW) lk_X4_226 (dG D_X4_resolved 1 rfl) rcv_4 ⟨Nat.le_of_ble_eq_true rfl, Nat.le_of_ble_eq_true rfl⟩ ⟨(Nat.le_of_ble_eq_true rfl), (Nat.le_of_ble_eq_true rfl)⟩ (by first | exact Nat.le_of_ble_eq_true rfl | simp [cat_rf, cat_int, cat_ref]) (fun h => ?_)
  exact V_iret (dG D_X4_resolved 2 rfl) rfl (Nat.le_of_ble_eq_true rfl) (Nat.le_of_ble_eq_true rfl) ⟨rfl, rfl, rfl, rfl⟩
theorem ok_feed (hW : WF nt C) {x : Int32} (h1 : ¬ x < 0) : RET g K_X4_feed 0 0 [.ref (ad g 0), .int x] nt C M o (some (.int (chA C x (rsS C nt 0 (closedS C))))) C M o := by
  refine MT_of (by decide +kernel) rfl rfl (Nat.le_of_ble_eq_true rfl) (by simp [cat_rf, cat_int, cat_ref]) (fun h => ?_)
  refine V_aload_n (dG D_X4_feed 0 rfl) rfl ?_
  refine V_iload_n (dG D_X4_feed 1 rfl) rfl ?_
  refine R_nb1 (ok_needPlace h1) lk_X4_229 (dG D_X4_feed 2 rfl) rcv_4 ⟨Nat.le_of_ble_eq_true rfl, Nat.le_of_ble_eq_true rfl⟩ ⟨(Nat.le_of_ble_eq_true rfl), (Nat.le_of_ble_eq_true rfl)⟩ (by first | exact Nat.le_of_ble_eq_true rfl | simp [cat_rf, cat_int, cat_ref]) (fun h => ?_)
  refine V_aload_n (dG D_X4_feed 3 rfl) rfl ?_
  refine gf_X4_30 rfl (dG D_X4_feed 4 rfl) ?_
  refine V_iload_n (dG D_X4_feed 5 rfl) rfl ?_
  refine V_aload_n (dG D_X4_feed 6 rfl) rfl ?_
  refine R_vb0 (okC_resolved hW) lk_X4_226 (dG D_X4_feed 7 rfl) rcv_4 ⟨Nat.le_of_ble_eq_true rfl, Nat.le_of_ble_eq_true rfl⟩ ⟨(Nat.le_of_ble_eq_true rfl), (Nat.le_of_ble_eq_true rfl)⟩ (by first | exact Nat.le_of_ble_eq_true rfl | simp [cat_rf, cat_int, cat_ref]) (fun h => ?_)
  refine R_vb2 (ok_changeAt hW.cnn.2.2.1 hW.cnn.1 hW.cnn.2.1 h1) lk_X4_232 (dG D_X4_feed 8 rfl) rcv_1 ⟨Nat.le_of_ble_eq_true rfl, Nat.le_of_ble_eq_true rfl⟩ ⟨(Nat.le_of_ble_eq_true rfl), (Nat.le_of_ble_eq_true rfl)⟩ (by first | exact Nat.le_of_ble_eq_true rfl | simp [cat_rf, cat_int, cat_ref]) (fun h => ?_)
  exact V_iret (dG D_X4_feed 9 rfl) rfl (Nat.le_of_ble_eq_true rfl) (Nat.le_of_ble_eq_true rfl) ⟨rfl, rfl, rfl, rfl⟩
theorem ok_order (hW : WF nt C) {x : Int32} (h1 : ¬ x < 0) : RET g K_X4_order 0 0 [.ref (ad g 0), .int x] nt C M o (some (.int (orS C x))) C M o := by
  refine MT_of (by decide +kernel) rfl rfl (Nat.le_of_ble_eq_true rfl) (by simp [cat_rf, cat_int, cat_ref]) (fun h => ?_)
  refine V_aload_n (dG D_X4_order 0 rfl) rfl ?_
  refine V_iload_n (dG D_X4_order 1 rfl) rfl ?_
  refine R_nb1 (ok_needPlace h1) lk_X4_229 (dG D_X4_order 2 rfl) rcv_4 ⟨Nat.le_of_ble_eq_true rfl, Nat.le_of_ble_eq_true rfl⟩ ⟨(Nat.le_of_ble_eq_true rfl), (Nat.le_of_ble_eq_true rfl)⟩ (by first | exact Nat.le_of_ble_eq_true rfl | simp [cat_rf, cat_int, cat_ref]) (fun h => ?_)
  refine V_aload_n (dG D_X4_order 3 rfl) rfl ?_
  refine gf_X4_30 rfl (dG D_X4_order 4 rfl) ?_
  refine V_iload_n (dG D_X4_order 5 rfl) rfl ?_
  refine R_vb1 (ok_committedAt hW.kmm.2.1 hW.kmm.1 h1) lk_X4_235 (dG D_X4_order 6 rfl) rcv_1 ⟨Nat.le_of_ble_eq_true rfl, Nat.le_of_ble_eq_true rfl⟩ ⟨(Nat.le_of_ble_eq_true rfl), (Nat.le_of_ble_eq_true rfl)⟩ (by first | exact Nat.le_of_ble_eq_true rfl | simp [cat_rf, cat_int, cat_ref]) (fun h => ?_)
  refine V_astore_nt (dG D_X4_order 7 rfl) (Nat.le_of_ble_eq_true rfl) ?_
  refine V_aload_nt (dG D_X4_order 8 rfl) rfl ?_
  refine V_ifnonnullt (tgt := 22) (dG D_X4_order 9 rfl) (by decide) (fun c_15 => ?_) (fun c_15 => ?_)
  · have hu := trv_tok (co_trv hW h1) c_15
    rw [show orS C x = C 11 (coA C x).toNatClampNeg from if_neg c_15]
    refine V_aload_nt (dG D_X4_order 12 rfl) rfl ?_
    refine gf_X4_199 rfl (dG D_X4_order 13 rfl) hu ?_
    exact V_iret (dG D_X4_order 14 rfl) rfl (Nat.le_of_ble_eq_true rfl) (Nat.le_of_ble_eq_true rfl) ⟨rfl, rfl, rfl, rfl⟩
  · rw [show orS C x = -1 from if_pos c_15]
    refine V_iconst (v := -1) (dG D_X4_order 10 rfl) (by decide) ?_
    refine V_goto (tgt := 26) (dG D_X4_order 11 rfl) (by decide) ?_
    exact V_iret (dG D_X4_order 14 rfl) rfl (Nat.le_of_ble_eq_true rfl) (Nat.le_of_ble_eq_true rfl) ⟨rfl, rfl, rfl, rfl⟩
theorem th_feed {x : Int32} (h1 : x < 0) : THR g K_X4_feed 1 6 [.ref (ad g 0), .int x] nt C M o "java/lang/IndexOutOfBoundsException" := by
  refine MT_of (by decide +kernel) rfl rfl (Nat.le_of_ble_eq_true rfl) (by simp [cat_rf, cat_int, cat_ref]) (fun h => ?_)
  refine V_aload_n (dG D_X4_feed 0 rfl) rfl ?_
  refine V_iload_n (dG D_X4_feed 1 rfl) rfl ?_
  exact T_b1 (th_needPlace h1) lk_X4_229 (dG D_X4_feed 2 rfl) rcv_4 ⟨Nat.le_of_ble_eq_true rfl, Nat.le_of_ble_eq_true rfl⟩ ⟨(Nat.le_of_ble_eq_true rfl), (Nat.le_of_ble_eq_true rfl)⟩ (by first | exact Nat.le_of_ble_eq_true rfl | simp [cat_rf, cat_int, cat_ref]) (fun h => VX_out rfl (Nat.le_of_ble_eq_true rfl) (Nat.le_of_ble_eq_true rfl) ⟨rfl, rfl, rfl, rfl⟩)
theorem th_order {x : Int32} (h1 : x < 0) : THR g K_X4_order 1 6 [.ref (ad g 0), .int x] nt C M o "java/lang/IndexOutOfBoundsException" := by
  refine MT_of (by decide +kernel) rfl rfl (Nat.le_of_ble_eq_true rfl) (by simp [cat_rf, cat_int, cat_ref]) (fun h => ?_)
  refine V_aload_n (dG D_X4_order 0 rfl) rfl ?_
  refine V_iload_n (dG D_X4_order 1 rfl) rfl ?_
  exact T_b1 (th_needPlace h1) lk_X4_229 (dG D_X4_order 2 rfl) rcv_4 ⟨Nat.le_of_ble_eq_true rfl, Nat.le_of_ble_eq_true rfl⟩ ⟨(Nat.le_of_ble_eq_true rfl), (Nat.le_of_ble_eq_true rfl)⟩ (by first | exact Nat.le_of_ble_eq_true rfl | simp [cat_rf, cat_int, cat_ref]) (fun h => VX_out rfl (Nat.le_of_ble_eq_true rfl) (Nat.le_of_ble_eq_true rfl) ⟨rfl, rfl, rfl, rfl⟩)
theorem ok_judged (hW : WF nt C) : RET g K_X4_judged 0 0 [.ref (ad g 0)] nt C M o (some (.int (cuS (km C) 0 0 (fillS 1000 32 0 C)).1)) (cuS (km C) 0 0 (fillS 1000 32 0 C)).2 M o := by
  refine MT_of (by decide +kernel) rfl rfl (Nat.le_of_ble_eq_true rfl) (by simp [cat_rf, cat_int, cat_ref]) (fun h => ?_)
  refine V_aload_n (dG D_X4_judged 0 rfl) rfl ?_
  refine gf_X4_30 rfl (dG D_X4_judged 1 rfl) ?_
  refine R_vb0 (ok_countUnexplained hW.kmm.2.1 hW.kmm.1 hW.kmm.2.2) lk_X4_239 (dG D_X4_judged 2 rfl) rcv_1 ⟨Nat.le_of_ble_eq_true rfl, Nat.le_of_ble_eq_true rfl⟩ ⟨(Nat.le_of_ble_eq_true rfl), (Nat.le_of_ble_eq_true rfl)⟩ (by first | exact Nat.le_of_ble_eq_true rfl | simp [cat_rf, cat_int, cat_ref]) (fun h => ?_)
  exact V_iret (dG D_X4_judged 3 rfl) rfl (Nat.le_of_ble_eq_true rfl) (Nat.le_of_ble_eq_true rfl) ⟨rfl, rfl, rfl, rfl⟩
end B14
