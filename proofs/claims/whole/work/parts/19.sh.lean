/-! the tables' words at the law's entry -/
theorem mm_T_lw {w : Cond} (h : w ∈ mm_T) : w ∈ lw_tbl := (List.mem_filter.mp h).1
theorem tb_lw {w : Cond} (h : w ∈ tables_1) : w ∈ lw_tbl := List.mem_append_right _ h
theorem arr_K {s : State} {A : Array Value} {ty : FieldType} (h : (Cond.arrayClass ty).before A s = true) (hr : ∀ cA, s.vm.findClass ("[" ++ ty.toString) = some cA → va_RA s cA ty) : ∃ cA, ArrOfT s cA ty ∧ va_RA s cA ty := by
  obtain ⟨c, k, comp, h1, h2, h3⟩ := Cond.arrayClass_spec h
  exact ⟨c, fun n z => ⟨fun k h => (by cases h), k, h2, comp, h3⟩, hr c h1⟩
theorem ao_mem : Cond.arrayOver (.object "StagedCompiler$Instance") ∈ tables_1 := List.mem_of_getElem? (i := 88) (by decide +kernel)
set_option maxRecDepth 100000 in
theorem law_K {s : State} {A : Array Value} (hts : ∀ w ∈ lw_tbl, w.before A s = true) : ∃ (D : va_G) (dA : FieldType → ClassId), mm_K D dA s := by
  have hT : ∀ w ∈ mm_T, w.before A s = true := fun w hw => hts w (mm_T_lw hw)
  obtain ⟨c0, i0, k0⟩ := u_known hT cp_0.2.2.1 (hT _ (mm_CCok cc_9_7).2.1)
  obtain ⟨c1, i1, k1⟩ := u_known hT cp_1.2.2.1 (hT _ (mm_CCok cc_0_7).2.1)
  obtain ⟨c2, i2, k2⟩ := u_known hT cp_2.2.2.1 (hT _ (mm_CCok cc_0_10).2.1)
  obtain ⟨c3, i3, k3⟩ := u_known hT cp_3.2.2.1 (hT _ (mm_CCok cc_2_15).2.1)
  obtain ⟨c4, i4, k4⟩ := u_known hT cp_4.2.2.1 (hT _ (mm_CCok cc_0_25).2.1)
  obtain ⟨c5, i5, k5⟩ := u_known hT cp_5.2.2.1 (hT _ (mm_CCok cc_9_10).2.1)
  obtain ⟨a0, b0⟩ := arr_K (hT _ (mm_prtok (ty := .int) (by decide)).1) (fun _ h => h)
  obtain ⟨a1, b1⟩ := arr_K (hT _ (mm_prtok (ty := .boolean) (by decide)).1) (fun _ h => h)
  obtain ⟨a2, b2⟩ := arr_K (hT _ (mm_prtok (ty := .long) (by decide)).1) (fun _ h => h)
  have ao := hts _ (tb_lw ao_mem)
  obtain ⟨comp, a3, k, h1, h2, h3, h4, h5⟩ := Cond.arrayOver_spec ao
  have b3 : ArrOfT s a3 (.object "StagedCompiler$Instance") ∧ va_RA s a3 (.object "StagedCompiler$Instance") := ⟨fun n z => ⟨fun k h => (by cases h), k, h3, comp, h4⟩, k, comp, h3, h4, h1, h5⟩
  refine ⟨(fun c => match c with | 0 => c0 | 1 => c1 | 2 => c2 | 3 => c3 | 4 => c4 | _ => c5, fun c => match c with | 0 => i0 | 1 => i1 | 2 => i2 | 3 => i3 | 4 => i4 | _ => i5), fun ty => match ty with | .int => a0 | .boolean => a1 | .long => a2 | _ => a3, ⟨⟨fun c q hq => ?_, fun c q hq => ?_⟩, fun q hq => va_Nw.of rfl (hts _ (tb_lw (nfp_all q hq))), fun q hq => va_Nw.of rfl (hts _ (tb_lw (nmp_all q hq))), fun C hC => ?_⟩⟩
  · match c, hq with
    | 0, hq => cases hq; exact k0
    | 1, hq => cases hq; exact k1
    | 2, hq => cases hq; exact k2
    | 3, hq => cases hq; exact k3
    | 4, hq => cases hq; exact k4
    | 5, hq => cases hq; exact k5
    | n + 6, hq => cases hq
  · match c, hq with
    | 0, hq => cases hq; exact b0
    | 1, hq => cases hq; exact b1
    | 2, hq => cases hq; exact b2
    | 3, hq => cases hq; exact b3
    | n + 4, hq => cases hq
  · have e : C = "StagedCompiler$Instance" := by
      unfold mm_ao at hC
      exact List.mem_singleton.mp hC
    rw [e]
    exact va_AO.of ao
/-- every contract that the law calls -/
theorem lw_ok {l : Launch} {D : va_G} {dA : FieldType → ClassId} {sz : Nat} : mm_Ok l D dA sz room_1 lw_G := by
  have f : ∀ {d : Nat}, d ≤ 200 → d + 1 ≤ room_1.frames := fun {d} h => by
    show d + 1 ≤ 2048
    omega
  have q : ∀ {d id : Nat}, d ≤ 200 → mm_ml id ≤ 100 → 8 + (mm_ml id + 11) + 60 * d ≤ room_1.locals := fun {d id} h h' => by
    show 8 + (mm_ml id + 11) + 60 * d ≤ 84000
    omega
  unfold lw_G
  exact mm_okC v_i0 (f (by decide)) (q (by decide) (by decide)) (mm_okC v_i5 (f (by decide)) (q (by decide) (by decide)) (mm_okC v_fnode (f (by decide)) (q (by decide) (by decide)) (mm_okC v_qnode (f (by decide)) (q (by decide) (by decide)) (mm_okC v_fdefine (f (by decide)) (q (by decide) (by decide)) (mm_okC v_qdef (f (by decide)) (q (by decide) (by decide)) (mm_okC v_fcompile (f (by decide)) (q (by decide) (by decide)) (mm_okC v_qcompile (f (by decide)) (q (by decide) (by decide)) (mm_okC v_ferrorAt (f (by decide)) (q (by decide) (by decide)) (mm_okC v_qerrorAt (f (by decide)) (q (by decide) (by decide)) (mm_okC v_ffun (f (by decide)) (q (by decide) (by decide)) (mm_okC v_qfun (f (by decide)) (q (by decide) (by decide)) (mm_okC v_fcountOf (f (by decide)) (q (by decide) (by decide)) (mm_okC v_qcountOf (f (by decide)) (q (by decide) (by decide)) (mm_okC v_ftype (f (by decide)) (q (by decide) (by decide)) (mm_okC v_qtypeOf (f (by decide)) (q (by decide) (by decide)) (mm_okC v_fknown (f (by decide)) (q (by decide) (by decide)) (mm_okC v_qknown (f (by decide)) (q (by decide) (by decide)) (mm_okC v_fsize (f (by decide)) (q (by decide) (by decide)) (mm_okC v_qsize (f (by decide)) (q (by decide) (by decide)) (mm_okC v_frun (f (by decide)) (q (by decide) (by decide)) (mm_okC v_qrun (f (by decide)) (q (by decide) (by decide)) (mm_okC v_fcount (f (by decide)) (q (by decide) (by decide)) (mm_okC v_qcount (f (by decide)) (q (by decide) (by decide)) mm_okN)))))))))))))))))))))))
