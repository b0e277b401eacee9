/-! the law's loop, whole -/
section LAW
variable {F : Fx} {b L : Nat} {sc : Nat → Int32} {ox om : Nat} {ad : Nat → Nat}
theorem lw_loop (C : Cx F code "ChainVersionsLaw" 15 600000 7302250) (hn : xn F = 4) (hX : va_X b L sc (xs F) (xs F).heap) (hbA : ¬ xA F b) (hL : L ≤ 2052) (hend : ∀ (S : Sto) (cs ss i : Nat), cs ≤ 600000 → ss ≤ 7302250 → WS F 638 (lvv b ox om i) [] S cs ss) :
    ∀ (n k : Nat) (G : GS) (Sx Sm : Sto), 512 ≤ k + n → k ≤ 512 → 4 * k ≤ L → INV k G → XO (xz F) ox G Sx → MR om ad G Sm → Ap Sx Sm → WS F 28 (lvv b ox om (1 + 4 * k)) [] (mg Sx Sm) (CCn k G) (SSn k G) := by
  intro n
  induction n with
  | zero =>
    intro k G Sx Sm h1 h2 h3 hI hxo hmr hap
    have e := sm_600 hI
    refine ws_iload_n C d_L_law_28 rfl ?_
    refine ws_aload_n C d_L_law_29 rfl ?_
    refine ws_slen C hX hbA d_L_law_30 ?_
    refine ws_iconst C (nI 4) d_L_law_31 rfl ?_
    refine ws_isubN C d_L_law_32 (by omega) ?_
    refine ws_icmp_gtN C d_L_law_33 (by omega) (by omega) (fun _ => hend _ _ _ _ (by unfold CCn; omega) (by unfold SSn; omega)) (fun h => absurd h (by omega))
  | succ n ih =>
    intro k G Sx Sm h1 h2 h3 hI hxo hmr hap
    have e := sm_600 hI
    refine ws_iload_n C d_L_law_28 rfl ?_
    refine ws_aload_n C d_L_law_29 rfl ?_
    refine ws_slen C hX hbA d_L_law_30 ?_
    refine ws_iconst C (nI 4) d_L_law_31 rfl ?_
    rcases Nat.lt_or_ge L 4 with h4 | h4
    · have k0 : k = 0 := by omega
      subst k0
      refine ws_isub C d_L_law_32 ?_
      refine ws_icmp_gt C d_L_law_33 (fun _ => hend _ _ _ _ (by unfold CCn; omega) (by unfold SSn; omega)) (fun h => absurd ?_ h)
      have : L = 0 ∨ L = 1 ∨ L = 2 ∨ L = 3 := by omega
      rcases this with rfl | rfl | rfl | rfl <;> decide
    refine ws_isubN C d_L_law_32 h4 ?_
    refine ws_icmp_gtN C d_L_law_33 (by omega) (by omega) (fun _ => hend _ _ _ _ (by unfold CCn; omega) (by unfold SSn; omega)) (fun h => ?_)
    have hk : k ≤ 511 := by omega
    have hK : LK F b ox om ad k := by
      intro G' Sx' Sm' hI' hxo' hmr' hap'
      refine ws_iinc C (nI (1 + 4 * (k + 1))) d_L_law_632 rfl ?_ (by rw [hn]; decide) ?_
      · show nI (1 + 4 * k) + nI 4 = _
        rw [nI_add]
        congr 1
      · exact ws_goto C d_L_law_635 (ih (k + 1) G' Sx' Sm' (by omega) (by omega) (by omega) hI' hxo' hmr' hap')
    refine ws_aload_n C d_L_law_36 rfl ?_
    refine ws_iload_n C d_L_law_37 rfl ?_
    refine ws_sld C hX hbA (by omega) (by omega) d_L_law_38 ?_
    refine ws_bipush C 31 d_L_law_39 rfl ?_
    refine ws_iand C d_L_law_41 ?_
    exact lw_case C hX hbA (by omega) (by omega) hI hk hxo hmr hap hK (ws_widen (by unfold CCn; omega) (by unfold SSn; omega) (hK G Sx Sm hI.mono hxo hmr hap)) _
/-- the law from its start -/
theorem lw_all (C : Cx F code "ChainVersionsLaw" 15 600000 7302250) (hn : xn F = 4) (hX : va_X b L sc (xs F) (xs F).heap) (hbA : ¬ xA F b) (hL : L ≤ 2052) (hend : ∀ (ox om : Nat) (S : Sto) (cs ss i : Nat), cs ≤ 600000 → ss ≤ 7302250 → WS F 638 (lvv b ox om i) [] S cs ss) (S : Sto) (hS0 : ∀ a, sK S a = 0) : WS F 0 [some (.ref b), none, none, none] [] S 0 0 := by
  refine ws_new C d_L_law_0 (kd := 6) (n := 6) (by decide) (by decide) rfl (tb_in (by decide +kernel) (by decide +kernel)) (tb_in (by decide +kernel) (by decide +kernel)) (tb_in (by decide +kernel) (by decide +kernel)) (by decide) (by decide) fun ox hox => ?_
  refine ws_dup C d_L_law_3 rfl ?_
  refine ws_aload_n C d_L_law_4 rfl ?_
  refine ws_iconst C (nI 0) d_L_law_5 rfl ?_
  refine ws_cell C hX hbA (by omega) (by decide) d_L_law_6 (Nat.le_of_ble_eq_true rfl) (by decide) (by decide) (by decide) ?_
  refine ws_callIv C w_L_15 (c_X_init (V := F.1) (S := newO S ox 6) (o := ox) (by simp [newO, sK, va_up]) (by simp [newO, sI]; rfl) (cellV L sc 0)) d_L_law_9 (As := [.int (cellV L sc 0)]) (rest := [.ref ox]) rfl rfl (Nat.le_of_ble_eq_true rfl) (by decide) (by decide) (by decide) fun Sx hxo => ?_
  refine ws_astore_n C d_L_law_12 (by rw [hn]; decide) ?_
  refine ws_new C d_L_law_13 (kd := 8) (n := 27) (by decide) (by decide) rfl (tb_in (by decide +kernel) (by decide +kernel)) (tb_in (by decide +kernel) (by decide +kernel)) (tb_in (by decide +kernel) (by decide +kernel)) (by decide) (by decide) fun om hom => ?_
  refine ws_cel (one_mg hom) ?_
  refine ws_dup C d_L_law_16 rfl ?_
  refine ws_aload_n C d_L_law_17 rfl ?_
  refine ws_iconst C (nI 0) d_L_law_18 rfl ?_
  refine ws_cell C hX hbA (by omega) (by decide) d_L_law_19 (Nat.le_of_ble_eq_true rfl) (by decide) (by decide) (by decide) ?_
  refine ws_call1I C w_L_20 (one_ap hom) (c_M_init (V := vO F Sx) (S := one Sx om 8) (o := om) one_k ⟨one_i rfl, one_i rfl, one_i rfl⟩ (cellV L sc 0)) d_L_law_22 (As := [.int (cellV L sc 0)]) (rest := [.ref om]) rfl rfl (Nat.le_of_ble_eq_true rfl) (by decide) (by decide) (by decide) ?_
  rintro v Sm ⟨rfl, ad, hmr⟩ hap
  refine ws_cel (mg_swap hap) ?_
  refine ws_astore_n C d_L_law_25 (by rw [hn]; decide) ?_
  refine ws_iconst C (nI 1) d_L_law_26 rfl ?_
  refine ws_istore_n C d_L_law_27 (by rw [hn]; decide) ?_
  have hI := INV.start (cellV L sc 0)
  refine ws_widen (cs' := CCn 0 (iniG (cellV L sc 0))) (ss' := SSn 0 (iniG (cellV L sc 0))) (by unfold CCn; omega) (by unfold SSn; omega) ?_
  exact lw_loop C hn hX hbA hL (hend ox om) 512 0 _ Sx Sm (by decide) (by decide) (by omega) hI hxo hmr hap.symm
end LAW
