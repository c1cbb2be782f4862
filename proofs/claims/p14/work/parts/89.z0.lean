/-! All contracts hold. -/
theorem ha_chk {q : mz_Q} {dep : Nat} {y : mz_Ck} (hC : ∀ c ∈ mz_Cs, c.2 < dep → mz_Ct mz_GG mq_PP HX c.1 c.2) (h : mz_chk mz_GG mq_PP mz_Cs q dep y = true) : mz_Ct mz_GG mq_PP HX q dep := mz_chk_ok mz_GG mq_PP HX HX_same hb_okG.1 hb_okG.2.1 hb_okG.2.2.1 hb_okG.2.2.2.1 hb_okG.2.2.2.2 hC h
theorem ha_cons {p : mz_Q × Nat → Prop} {a : mz_Q × Nat} {l : List (mz_Q × Nat)} (h : p a) (hl : ∀ c ∈ l, p c) : ∀ c ∈ a :: l, p c := by
  intro c hc
  rcases List.mem_cons.mp hc with rfl | hc
  · exact h
  · exact hl c hc
def ha_p (c : mz_Q × Nat) : Prop := (∀ c' ∈ mz_Cs, c'.2 < c.2 → mz_Ct mz_GG mq_PP HX c'.1 c'.2) → mz_Ct mz_GG mq_PP HX c.1 c.2
set_option maxRecDepth 100000 in
theorem ha_step : ∀ c ∈ mz_Cs, ha_p c := by
  unfold mz_Cs
  refine ha_cons (a := (mz_q0, 1)) (fun hC => ha_chk hC mz_c0) ?_
  refine ha_cons (a := (mz_q1, 1)) (fun hC => ha_chk hC mz_c1) ?_
  refine ha_cons (a := (mz_q2, 1)) (fun hC => ha_chk hC mz_c2) ?_
  refine ha_cons (a := (mz_q3, 1)) (fun hC => ha_chk hC mz_c3) ?_
  refine ha_cons (a := (mz_q4, 1)) (fun hC => ha_chk hC mz_c4) ?_
  refine ha_cons (a := (mz_q5, 1)) (fun hC => ha_chk hC mz_c5) ?_
  refine ha_cons (a := (mz_q6, 1)) (fun hC => ha_chk hC mz_c6) ?_
  refine ha_cons (a := (mz_q7, 1)) (fun hC => ha_chk hC mz_c7) ?_
  refine ha_cons (a := (mz_q8, 1)) (fun hC => ha_chk hC mz_c8) ?_
  refine ha_cons (a := (mz_q9, 1)) (fun hC => ha_chk hC mz_c9) ?_
  refine ha_cons (a := (mz_q10, 1)) (fun hC => ha_chk hC mz_c10) ?_
  refine ha_cons (a := (mz_q11, 1)) (fun hC => ha_chk hC mz_c11) ?_
  refine ha_cons (a := (mz_q12, 1)) (fun hC => ha_chk hC mz_c12) ?_
  refine ha_cons (a := (mz_q13, 1)) (fun hC => ha_chk hC mz_c13) ?_
  refine ha_cons (a := (mz_q14, 1)) (fun hC => ha_chk hC mz_c14) ?_
  refine ha_cons (a := (mz_q15, 1)) (fun hC => ha_chk hC mz_c15) ?_
  refine ha_cons (a := (mz_q16, 1)) (fun hC => ha_chk hC mz_c16) ?_
  refine ha_cons (a := (mz_q17, 1)) (fun hC => ha_chk hC mz_c17) ?_
  refine ha_cons (a := (mz_q18, 1)) (fun hC => ha_chk hC mz_c18) ?_
  refine ha_cons (a := (mz_q19, 1)) (fun hC => ha_chk hC mz_c19) ?_
  refine ha_cons (a := (mz_q20, 1)) (fun hC => ha_chk hC mz_c20) ?_
  refine ha_cons (a := (mz_q21, 1)) (fun hC => ha_chk hC mz_c21) ?_
  refine ha_cons (a := (mz_q22, 2)) (fun hC => ha_chk hC mz_c22) ?_
  refine ha_cons (a := (mz_q23, 1)) (fun _ => hs_sign) ?_
  refine ha_cons (a := (mz_q24, 1)) (fun _ => hs_build12) ?_
  refine ha_cons (a := (mz_q25, 1)) (fun _ => hs_build16) ?_
  refine ha_cons (a := (mz_q26, 1)) (fun _ => hs_build20) ?_
  refine ha_cons (a := (mz_q27, 1)) (fun hC => ha_chk hC mz_c27) ?_
  refine ha_cons (a := (mz_q28, 1)) (fun hC => ha_chk hC mz_c28) ?_
  refine ha_cons (a := (mz_q29, 2)) (fun hC => ha_chk hC mz_c29) ?_
  refine ha_cons (a := (mz_q30, 2)) (fun hC => ha_chk hC mz_c30) ?_
  refine ha_cons (a := (mz_q31, 3)) (fun hC => ha_chk hC mz_c31) ?_
  refine ha_cons (a := (mz_q32, 2)) (fun hC => ha_chk hC mz_c32) ?_
  refine ha_cons (a := (mz_q33, 2)) (fun hC => ha_chk hC mz_c33) ?_
  refine ha_cons (a := (mz_q34, 1)) (fun hC => ha_chk hC mz_c34) ?_
  refine ha_cons (a := (mz_q35, 3)) (fun hC => ha_chk hC mz_c35) ?_
  refine ha_cons (a := (mz_q36, 1)) (fun hC => ha_chk hC mz_c36) ?_
  refine ha_cons (a := (mz_q37, 4)) (fun hC => ha_chk hC mz_c37) ?_
  refine ha_cons (a := (mz_q38, 1)) (fun hC => ha_chk hC mz_c38) ?_
  refine ha_cons (a := (mz_q39, 1)) (fun hC => ha_chk hC mz_c39) ?_
  refine ha_cons (a := (mz_q40, 1)) (fun hC => ha_chk hC mz_c40) ?_
  refine ha_cons (a := (mz_q41, 2)) (fun hC => ha_chk hC mz_c41) ?_
  refine ha_cons (a := (mz_q42, 2)) (fun hC => ha_chk hC mz_c42) ?_
  refine ha_cons (a := (mz_q43, 2)) (fun hC => ha_chk hC mz_c43) ?_
  refine ha_cons (a := (mz_q44, 2)) (fun hC => ha_chk hC mz_c44) ?_
  refine ha_cons (a := (mz_q45, 2)) (fun hC => ha_chk hC mz_c45) ?_
  refine ha_cons (a := (mz_q46, 2)) (fun hC => ha_chk hC mz_c46) ?_
  refine ha_cons (a := (mz_q47, 2)) (fun hC => ha_chk hC mz_c47) ?_
  refine ha_cons (a := (mz_q48, 2)) (fun hC => ha_chk hC mz_c48) ?_
  refine ha_cons (a := (mz_q49, 2)) (fun hC => ha_chk hC mz_c49) ?_
  refine ha_cons (a := (mz_q50, 2)) (fun hC => ha_chk hC mz_c50) ?_
  refine ha_cons (a := (mz_q51, 2)) (fun hC => ha_chk hC mz_c51) ?_
  refine ha_cons (a := (mz_q52, 2)) (fun hC => ha_chk hC mz_c52) ?_
  refine ha_cons (a := (mz_q53, 2)) (fun hC => ha_chk hC mz_c53) ?_
  refine ha_cons (a := (mz_q54, 2)) (fun hC => ha_chk hC mz_c54) ?_
  refine ha_cons (a := (mz_q55, 1)) (fun hC => ha_chk hC mz_c55) ?_
  refine ha_cons (a := (mz_q56, 3)) (fun hC => ha_chk hC mz_c56) ?_
  refine ha_cons (a := (mz_q57, 1)) (fun _ => hs_arrange) ?_
  refine ha_cons (a := (mz_q58, 2)) (fun hC => hs_msign (fun c hc h => hC c hc (Nat.lt_of_lt_of_le h (by decide)))) ?_
  refine ha_cons (a := (mz_q59, 2)) (fun hC => ha_chk hC mz_c59) ?_
  refine ha_cons (a := (mz_q60, 1)) (fun hC => ha_chk hC mz_c60) ?_
  refine ha_cons (a := (mz_q61, 3)) (fun hC => ha_chk hC mz_c61) ?_
  refine ha_cons (a := (mz_q62, 3)) (fun hC => ha_chk hC mz_c62) ?_
  refine ha_cons (a := (mz_q63, 4)) (fun hC => ha_chk hC mz_c63) ?_
  refine ha_cons (a := (mz_q64, 5)) (fun hC => ha_chk hC mz_c64) ?_
  refine ha_cons (a := (mz_q65, 6)) (fun hC => ha_chk hC mz_c65) ?_
  refine ha_cons (a := (mz_q66, 1)) (fun hC => ha_chk hC mz_c66) ?_
  refine ha_cons (a := (mz_q67, 1)) (fun hC => ha_chk hC mz_c67) ?_
  refine ha_cons (a := (mz_q68, 1)) (fun hC => ha_chk hC mz_c68) ?_
  refine ha_cons (a := (mz_q69, 1)) (fun hC => ha_chk hC mz_c69) ?_
  refine ha_cons (a := (mz_q70, 2)) (fun hC => ha_chk hC mz_c70) ?_
  refine ha_cons (a := (mz_q71, 1)) (fun hC => ha_chk hC mz_c71) ?_
  refine ha_cons (a := (mz_q72, 1)) (fun hC => ha_chk hC mz_c72) ?_
  refine ha_cons (a := (mz_q73, 1)) (fun hC => ha_chk hC mz_c73) ?_
  refine ha_cons (a := (mz_q74, 1)) (fun hC => ha_chk hC mz_c74) ?_
  refine ha_cons (a := (mz_q75, 1)) (fun hC => ha_chk hC mz_c75) ?_
  refine ha_cons (a := (mz_q76, 1)) (fun hC => ha_chk hC mz_c76) ?_
  refine ha_cons (a := (mz_q77, 1)) (fun hC => ha_chk hC mz_c77) ?_
  refine ha_cons (a := (mz_q78, 2)) (fun hC => ha_chk hC mz_c78) ?_
  refine ha_cons (a := (mz_q79, 2)) (fun hC => ha_chk hC mz_c79) ?_
  refine ha_cons (a := (mz_q80, 5)) (fun hC => ha_chk hC mz_c80) ?_
  refine ha_cons (a := (mz_q81, 1)) (fun hC => ha_chk hC mz_c81) ?_
  refine ha_cons (a := (mz_q82, 1)) (fun hC => ha_chk hC mz_c82) ?_
  refine ha_cons (a := (mz_q83, 2)) (fun hC => ha_chk hC mz_c83) ?_
  refine ha_cons (a := (mz_q84, 6)) (fun hC => hs_aunpack (fun c hc h => hC c hc (Nat.lt_of_lt_of_le h (by decide)))) ?_
  refine ha_cons (a := (mz_q85, 1)) (fun hC => ha_chk hC mz_c85) ?_
  refine ha_cons (a := (mz_q86, 1)) (fun _ => hs_clear) ?_
  refine ha_cons (a := (mz_q87, 1)) (fun _ => hs_maddToPath) ?_
  refine ha_cons (a := (mz_q88, 1)) (fun hC => ha_chk hC mz_c88) ?_
  refine ha_cons (a := (mz_q89, 1)) (fun hC => ha_chk hC mz_c89) ?_
  refine ha_cons (a := (mz_q90, 2)) (fun hC => ha_chk hC mz_c90) ?_
  refine ha_cons (a := (mz_q91, 2)) (fun hC => ha_chk hC mz_c91) ?_
  refine ha_cons (a := (mz_q92, 3)) (fun hC => ha_chk hC mz_c92) ?_
  refine ha_cons (a := (mz_q93, 4)) (fun hC => ha_chk hC mz_c93) ?_
  refine ha_cons (a := (mz_q94, 3)) (fun _ => hs_aisSound) ?_
  refine ha_cons (a := (mz_q95, 7)) (fun hC => ha_chk hC mz_c95) ?_
  refine ha_cons (a := (mz_q96, 2)) (fun hC => ha_chk hC mz_c96) ?_
  refine ha_cons (a := (mz_q97, 8)) (fun hC => ha_chk hC mz_c97) ?_
  refine ha_cons (a := (mz_q98, 2)) (fun hC => ha_chk hC mz_c98) ?_
  refine ha_cons (a := (mz_q99, 8)) (fun hC => ha_chk hC mz_c99) ?_
  refine ha_cons (a := (mz_q100, 3)) (fun hC => ha_chk hC mz_c100) ?_
  refine ha_cons (a := (mz_q101, 2)) (fun hC => ha_chk hC mz_c101) ?_
  refine ha_cons (a := (mz_q102, 1)) (fun hC => ha_chk hC mz_c102) ?_
  refine ha_cons (a := (mz_q103, 1)) (fun hC => ha_chk hC mz_c103) ?_
  refine ha_cons (a := (mz_q104, 1)) (fun hC => ha_chk hC mz_c104) ?_
  refine ha_cons (a := (mz_q105, 1)) (fun hC => ha_chk hC mz_c105) ?_
  refine ha_cons (a := (mz_q106, 2)) (fun hC => ha_chk hC mz_c106) ?_
  refine ha_cons (a := (mz_q107, 2)) (fun hC => ha_chk hC mz_c107) ?_
  refine ha_cons (a := (mz_q108, 1)) (fun hC => ha_chk hC mz_c108) ?_
  refine ha_cons (a := (mz_q109, 1)) (fun hC => ha_chk hC mz_c109) ?_
  refine ha_cons (a := (mz_q110, 1)) (fun hC => ha_chk hC mz_c110) ?_
  refine ha_cons (a := (mz_q111, 7)) (fun hC => ha_chk hC mz_c111) ?_
  refine ha_cons (a := (mz_q112, 8)) (fun hC => ha_chk hC mz_c112) ?_
  refine ha_cons (a := (mz_q113, 8)) (fun _ => hs_followPath) ?_
  refine ha_cons (a := (mz_q114, 3)) (fun hC => ha_chk hC mz_c114) ?_
  refine ha_cons (a := (mz_q115, 1)) (fun hC => ha_chk hC mz_c115) ?_
  refine ha_cons (a := (mz_q116, 9)) (fun hC => ha_chk hC mz_c116) ?_
  refine ha_cons (a := (mz_q117, 10)) (fun hC => ha_chk hC mz_c117) ?_
  refine ha_cons (a := (mz_q118, 9)) (fun hC => ha_chk hC mz_c118) ?_
  refine ha_cons (a := (mz_q119, 11)) (fun hC => ha_chk hC mz_c119) ?_
  refine ha_cons (a := (mz_q120, 2)) (fun hC => ha_chk hC mz_c120) ?_
  refine ha_cons (a := (mz_q121, 1)) (fun hC => ha_chk hC mz_c121) ?_
  refine ha_cons (a := (mz_q122, 1)) (fun hC => ha_chk hC mz_c122) ?_
  refine ha_cons (a := (mz_q123, 2)) (fun hC => ha_chk hC mz_c123) ?_
  refine ha_cons (a := (mz_q124, 1)) (fun hC => ha_chk hC mz_c124) ?_
  refine ha_cons (a := (mz_q125, 1)) (fun hC => ha_chk hC mz_c125) ?_
  refine ha_cons (a := (mz_q126, 2)) (fun hC => ha_chk hC mz_c126) ?_
  refine ha_cons (a := (mz_q127, 3)) (fun hC => ha_chk hC mz_c127) ?_
  refine ha_cons (a := (mz_q128, 1)) (fun hC => ha_chk hC mz_c128) ?_
  refine ha_cons (a := (mz_q129, 1)) (fun hC => ha_chk hC mz_c129) ?_
  refine ha_cons (a := (mz_q130, 2)) (fun hC => ha_chk hC mz_c130) ?_
  refine ha_cons (a := (mz_q131, 3)) (fun hC => ha_chk hC mz_c131) ?_
  refine ha_cons (a := (mz_q132, 8)) (fun hC => ha_chk hC mz_c132) ?_
  refine ha_cons (a := (mz_q133, 1)) (fun hC => ha_chk hC mz_c133) ?_
  refine ha_cons (a := (mz_q134, 2)) (fun hC => ha_chk hC mz_c134) ?_
  refine ha_cons (a := (mz_q135, 3)) (fun hC => ha_chk hC mz_c135) ?_
  refine ha_cons (a := (mz_q136, 1)) (fun hC => ha_chk hC mz_c136) ?_
  refine ha_cons (a := (mz_q137, 1)) (fun hC => ha_chk hC mz_c137) ?_
  refine ha_cons (a := (mz_q138, 2)) (fun hC => ha_chk hC mz_c138) ?_
  refine ha_cons (a := (mz_q139, 8)) (fun hC => hs_menter (fun c hc h => hC c hc (Nat.lt_of_lt_of_le h (by decide)))) ?_
  refine ha_cons (a := (mz_q140, 4)) (fun hC => hs_mfinish (fun c hc h => hC c hc (Nat.lt_of_lt_of_le h (by decide)))) ?_
  refine ha_cons (a := (mz_q141, 2)) (fun hC => ha_chk hC mz_c141) ?_
  refine ha_cons (a := (mz_q142, 2)) (fun hC => ha_chk hC mz_c142) ?_
  refine ha_cons (a := (mz_q143, 4)) (fun hC => hs_misSound0 (fun c hc h => hC c hc (Nat.lt_of_lt_of_le h (by decide)))) ?_
  refine ha_cons (a := (mz_q144, 1)) (fun hC => ha_chk hC mz_c144) ?_
  refine ha_cons (a := (mz_q145, 7)) (fun hC => hs_unpacked0 (fun c hc h => hC c hc (Nat.lt_of_lt_of_le h (by decide)))) ?_
  refine ha_cons (a := (mz_q146, 1)) (fun _ => hs_detail0) ?_
  refine ha_cons (a := (mz_q147, 2)) (fun hC => ha_chk hC mz_c147) ?_
  refine ha_cons (a := (mz_q148, 9)) (fun hC => hs_isReadable0 (fun c hc h => hC c hc (Nat.lt_of_lt_of_le h (by decide)))) ?_
  refine ha_cons (a := (mz_q149, 2)) (fun hC => ha_chk hC mz_c149) ?_
  refine ha_cons (a := (mz_q150, 4)) (fun hC => hs_misSound1 (fun c hc h => hC c hc (Nat.lt_of_lt_of_le h (by decide)))) ?_
  refine ha_cons (a := (mz_q151, 1)) (fun hC => ha_chk hC mz_c151) ?_
  refine ha_cons (a := (mz_q152, 7)) (fun hC => hs_unpacked1 (fun c hc h => hC c hc (Nat.lt_of_lt_of_le h (by decide)))) ?_
  refine ha_cons (a := (mz_q153, 1)) (fun _ => hs_detail1) ?_
  refine ha_cons (a := (mz_q154, 2)) (fun hC => ha_chk hC mz_c154) ?_
  refine ha_cons (a := (mz_q155, 9)) (fun hC => hs_isReadable1 (fun c hc h => hC c hc (Nat.lt_of_lt_of_le h (by decide)))) ?_
  refine ha_cons (a := (mz_q156, 2)) (fun hC => ha_chk hC mz_c156) ?_
  refine ha_cons (a := (mz_q157, 4)) (fun hC => hs_misSound2 (fun c hc h => hC c hc (Nat.lt_of_lt_of_le h (by decide)))) ?_
  refine ha_cons (a := (mz_q158, 1)) (fun hC => ha_chk hC mz_c158) ?_
  refine ha_cons (a := (mz_q159, 7)) (fun hC => hs_unpacked2 (fun c hc h => hC c hc (Nat.lt_of_lt_of_le h (by decide)))) ?_
  refine ha_cons (a := (mz_q160, 1)) (fun _ => hs_detail2) ?_
  refine ha_cons (a := (mz_q161, 2)) (fun hC => ha_chk hC mz_c161) ?_
  refine ha_cons (a := (mz_q162, 9)) (fun hC => hs_isReadable2 (fun c hc h => hC c hc (Nat.lt_of_lt_of_le h (by decide)))) ?_
  refine ha_cons (a := (mz_q163, 2)) (fun hC => ha_chk hC mz_c163) ?_
  refine ha_cons (a := (mz_q164, 4)) (fun hC => hs_misSound3 (fun c hc h => hC c hc (Nat.lt_of_lt_of_le h (by decide)))) ?_
  refine ha_cons (a := (mz_q165, 1)) (fun hC => ha_chk hC mz_c165) ?_
  refine ha_cons (a := (mz_q166, 7)) (fun hC => hs_unpacked3 (fun c hc h => hC c hc (Nat.lt_of_lt_of_le h (by decide)))) ?_
  refine ha_cons (a := (mz_q167, 1)) (fun _ => hs_detail3) ?_
  refine ha_cons (a := (mz_q168, 2)) (fun hC => ha_chk hC mz_c168) ?_
  refine ha_cons (a := (mz_q169, 9)) (fun hC => hs_isReadable3 (fun c hc h => hC c hc (Nat.lt_of_lt_of_le h (by decide)))) ?_
  refine ha_cons (a := (mz_q170, 2)) (fun hC => ha_chk hC mz_c170) ?_
  refine ha_cons (a := (mz_q171, 2)) (fun hC => ha_chk hC mz_c171) ?_
  refine ha_cons (a := (mz_q172, 2)) (fun hC => ha_chk hC mz_c172) ?_
  refine ha_cons (a := (mz_q173, 2)) (fun hC => ha_chk hC mz_c173) ?_
  refine ha_cons (a := (mz_q174, 10)) (fun hC => hs_mfindPath (fun c hc h => hC c hc (Nat.lt_of_lt_of_le h (by decide)))) ?_
  refine ha_cons (a := (mz_q175, 1)) (fun hC => ha_chk hC mz_c175) ?_
  refine ha_cons (a := (mz_q176, 2)) (fun hC => ha_chk hC mz_c176) ?_
  refine ha_cons (a := (mz_q177, 3)) (fun hC => ha_chk hC mz_c177) ?_
  refine ha_cons (a := (mz_q178, 14)) (fun hC => hs_mloads (fun c hc h => hC c hc (Nat.lt_of_lt_of_le h (by decide)))) ?_
  refine ha_cons (a := (mz_q179, 1)) (fun hC => ha_chk hC mz_c179) ?_
  refine ha_cons (a := (mz_q180, 15)) (fun hC => ha_chk hC mz_c180) ?_
  refine ha_cons (a := (mz_q181, 1)) (fun hC => ha_chk hC mz_c181) ?_
  refine ha_cons (a := (mz_q182, 1)) (fun hC => ha_chk hC mz_c182) ?_
  refine ha_cons (a := (mz_q183, 2)) (fun hC => ha_chk hC mz_c183) ?_
  refine ha_cons (a := (mz_q184, 11)) (fun hC => ha_chk hC mz_c184) ?_
  refine ha_cons (a := (mz_q185, 12)) (fun hC => ha_chk hC mz_c185) ?_
  refine ha_cons (a := (mz_q186, 10)) (fun hC => ha_chk hC mz_c186) ?_
  refine ha_cons (a := (mz_q187, 11)) (fun hC => ha_chk hC mz_c187) ?_
  refine ha_cons (a := (mz_q188, 16)) (fun hC => ha_chk hC mz_c188) ?_
  refine ha_cons (a := (mz_q189, 1)) (fun hC => ha_chk hC mz_c189) ?_
  refine ha_cons (a := (mz_q190, 1)) (fun hC => ha_chk hC mz_c190) ?_
  refine ha_cons (a := (mz_q191, 3)) (fun hC => ha_chk hC mz_c191) ?_
  refine ha_cons (a := (mz_q192, 1)) (fun _ => hs_derives) ?_
  refine ha_cons (a := (mz_q193, 15)) (fun hC => ha_chk hC mz_c193) ?_
  refine ha_cons (a := (mz_q194, 160)) (fun hC => hs_loadClass (fun c hc h => hC c hc (Nat.lt_of_lt_of_le h (by decide)))) ?_
  refine ha_cons (a := (mz_q195, 161)) (fun hC => ha_chk hC mz_c195) ?_
  refine ha_cons (a := (mz_q196, 161)) (fun hC => ha_chk hC mz_c196) ?_
  refine ha_cons (a := (mz_q197, 161)) (fun hC => ha_chk hC mz_c197) ?_
  intro c hc
  cases hc
theorem ha_all : ∀ c ∈ mz_Cs, mz_Ct mz_GG mq_PP HX c.1 c.2 := by
  have h : ∀ n : Nat, ∀ c ∈ mz_Cs, c.2 < n → mz_Ct mz_GG mq_PP HX c.1 c.2 := by
    intro n
    induction n with
    | zero => intro c _ h; omega
    | succ n ih => exact fun c hc h => ha_step c hc (fun c' hc' h' => ih c' hc' (by omega))
  exact fun c hc => h (c.2 + 1) c hc (by omega)
