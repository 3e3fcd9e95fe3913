section Mr
variable {a1 a2 a3 a4 a5 a6 a7 a8 : Int32}
theorem mread_s {th l pl lc R C ld sz : Int32} {et e ec ep el : Nat → Int32} {cs : List Nat} (ht : xT 1200 et l cs) :
    (∀ j, rdW cs = some j → ∃ e', f_Md_read 1200 5200 4 4 110 th l pl lc R C ld sz et e ec ep el = some ((0 : Int64), l, lc, iI j, iI 1, e', ec, ep, el)) ∧
    (rdW cs = none → ∃ x1 x2 x3 x4 x5, f_Md_read 1200 5200 4 4 110 th l pl lc R C ld sz et e ec ep el = some (rdB (rdY cs), (0 : Int32), x1, pl, iI 0, x2, x3, x4, x5)) := by
  obtain ⟨q1, q2⟩ := mscan_lp (a1 := th) (a3 := pl) (a4 := lc) (a5 := R) (a6 := C) (a7 := ld) (a8 := sz) ht cs [] x00 xF e rfl (by have := ht.1; show cs.length + 1 < 5000; omega) x00_ok ⟨xL_nil, fun _ h => (List.not_mem_nil h).elim⟩
  unfold f_Md_read
  cases hr : run cs 0 x00 with
  | mk y o =>
    have hY : rdY cs = y := by unfold rdY; rw [hr]
    cases o with
    | some j =>
      have hW : rdW cs = some j := by unfold rdW; rw [hr]
      obtain ⟨x1, x2, x3, x4, x5, x6, w⟩ := q2 y j hr
      have w' : lp_Md_read_18 th l pl lc R C ld sz et 1200 5200 xF (0 : Int32) (0 : Int32) (0 : Int32) (0 : Int32) (0 : Int32) (0 : Int32) (0 : Int32) e = _ := w
      rw [w']
      simp only [xob]
      rw [if_pos (by rfl)]
      simp only []
      have hg : f_Md_goes th l pl lc R C ld sz (0 : Int32) = some (iI 0, iI 1) := goes0
      rw [hg]
      simp only []
      rw [if_pos (by rfl)]
      refine ⟨fun j' hj' => ?_, fun hn => ?_⟩
      · rw [hW] at hj'
        cases hj'
        exact ⟨_, rfl⟩
      · rw [hW] at hn; cases hn
    | none =>
      obtain ⟨e1, w, w2⟩ := q1 y hr
      have w' : lp_Md_read_18 th l pl lc R C ld sz et 1200 5200 xF (0 : Int32) (0 : Int32) (0 : Int32) (0 : Int32) (0 : Int32) (0 : Int32) (0 : Int32) e = _ := w
      rw [w']
      simp only [xob]
      obtain ⟨ho, hN⟩ := run_ok cs 0 x00 y ht.2.2.1 x00_ok (fun z => by cases z) hr
      rw [Nat.zero_add] at ho
      have hm := mu_rg (s := (y.s : Int)) (by omega) (by have := ho.1; omega)
      have hcl := ht.1
      obtain ⟨h1, h2, h3, h4, h5, h6, h7, h8, h9⟩ := id ho
      rw [if_neg (by rw [iLm1, iI_eq (by omega) (by omega) (by omega) (by omega)]; omega), end_m y.s h1]
      simp only []
      by_cases hE : y.s = 2 ∨ y.s = 4 ∨ y.s = 5 ∨ y.s = 8 ∨ y.s = 11 ∨ y.s = 14
      · have hW : rdW cs = none := by unfold rdW; rw [hr]; exact if_pos hE
        rw [if_pos hE, if_neg (by decide), hW, hY]
        simp only []
        have hg : f_Md_goes th l pl lc R C ld sz (1 : Int32) = some (iI 1, iI 0) := goes1
        rw [hg]
        simp only []
        rw [if_neg (by decide)]
        refine ⟨fun j hj => (by cases hj), fun _ => ?_⟩
        have hz : (if bI y.ng = 0 then (some (0 : Int64)) else (some (-9223372036854775808 : Int64))) = some (if y.ng then (-9223372036854775808 : Int64) else 0) := by
          cases y.ng with
          | false => rfl
          | true => rw [if_neg (by decide)]; rfl
        rw [hz]
        simp only []
        have mu14 : mu (y.s : Int) = 14 ↔ y.s = 14 := by unfold mu; (repeat' split) <;> omega
        have mu11 : mu (y.s : Int) = 11 ↔ y.s = 11 := by unfold mu; (repeat' split) <;> omega
        unfold rdB rdM
        by_cases c14 : y.s = 14
        · rw [if_pos (by rw [iL14, iI_eq (by omega) (by omega) (by omega) (by omega)]; exact mu14.mpr c14), if_pos c14]
          exact ⟨_, _, _, _, _, rfl⟩
        · rw [if_neg (by rw [iL14, iI_eq (by omega) (by omega) (by omega) (by omega)]; exact fun z => c14 (mu14.mp z)), if_neg c14]
          have ho0 : ∀ v : Int64, v ||| (if y.ng then (-9223372036854775808 : Int64) else 0) = if y.ng then v ||| (-9223372036854775808) else v := fun v => by
            cases y.ng with
            | false => exact Int64.or_zero
            | true => rfl
          have ho1 : ∀ v : Int64, (if y.ng then (-9223372036854775808 : Int64) else 0) ||| v = if y.ng then v ||| (-9223372036854775808) else v := fun v => by rw [Int64.or_comm]; exact ho0 v
          by_cases c11 : y.s = 11
          · rw [if_pos (by rw [iL11, iI_eq (by omega) (by omega) (by omega) (by omega)]; exact mu11.mpr c11), if_pos c11, ho0]
            exact ⟨_, _, _, _, _, rfl⟩
          · rw [if_neg (by rw [iL11, iI_eq (by omega) (by omega) (by omega) (by omega)]; exact fun z => c11 (mu11.mp z)), if_neg c11]
            have hz2 : (if bI y.en = 0 then (some (iI (y.ex : Int))) else (some (-iI (y.ex : Int)))) = some (iI (if y.en then -(y.ex : Int) else (y.ex : Int))) := by
              cases y.en with
              | false => rfl
              | true => rw [if_neg (by decide), iI_neg]; rfl
            have ix0 : (0 : Int32).toNatClampNeg = 0 := rfl
            simp only [ix0, show ((0 : Int32) < 0 ∨ 4 ≤ 0) = False from eq_false (by decide), if_false]
            rw [hz2]
            simp only []
            obtain ⟨ec2, z1, z2, z3, z4⟩ := cz_s (a1 := iI 0) (a2 := (0 : Int32)) (a3 := pl) (a4 := lc) (a5 := R) (a6 := C) (a7 := ld) (a8 := sz) (s := 0) (e := e1) (ec := upd ec 0 (iI y.ds.length)) (ds := y.ds) (by decide) w2 (by omega) pk_us
            have z1' : f_Md_cutZeros 5200 4 (iI 0) (0 : Int32) pl lc R C ld sz e1 (upd ec 0 (iI y.ds.length)) (0 : Int32) = some ec2 := z1
            rw [z1']
            simp only []
            have hpl := drz_len y.ds
            by_cases c0 : drz y.ds = []
            · rw [if_pos (show ec2 0 = 0 by rw [z2, c0]; rfl), if_pos c0]
              have hzz : (if y.ng then (-9223372036854775808 : Int64) else 0) = if y.ng then (0 : Int64) ||| (-9223372036854775808) else 0 := by cases y.ng <;> rfl
              rw [hzz]
              exact ⟨_, _, _, _, _, rfl⟩
            · have hl0 : (drz y.ds).length ≠ 0 := fun z => c0 (List.length_eq_zero_iff.mp z)
              rw [if_neg (show ¬ ec2 0 = 0 by rw [z2, iL0, iI_eq (by omega) (by omega) (by omega) (by omega)]; omega), if_neg c0]
              have hpw : -1000000 < pwr y ∧ pwr y < 1000000 := by unfold pwr; split <;> omega
              obtain ⟨x1, x2, x3, x4, x5, w⟩ := (nbr_s (ds := drz y.ds) (P := pwr y) (fun d hd => h2 d (drz_mem hd)) (drz_hd h3) (drz_lst _) c0 (by omega) hpw.1 hpw.2).2 (iI 0) 0 pl lc R C ld sz e1 ec2 (upd ep 0 (iI y.p + iI (if y.en then -(y.ex : Int) else (y.ex : Int)))) el ⟨z4, z2, by rw [pk_us, iI_add]; rfl⟩
              rw [w]
              simp only []
              rw [ho1]
              exact ⟨_, _, _, _, _, rfl⟩
      · have hW : rdW cs = some cs.length := by unfold rdW; rw [hr]; exact if_neg hE
        rw [if_neg hE, if_pos (by rfl), hW]
        simp only []
        have hg : f_Md_goes th l pl lc R C ld sz (0 : Int32) = some (iI 0, iI 1) := goes0
        rw [hg]
        simp only []
        rw [if_pos (by rfl)]
        refine ⟨fun j hj => ?_, fun hn => (by cases hn)⟩
        cases hj
        exact ⟨_, rfl⟩
end Mr
