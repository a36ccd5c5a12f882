set_option maxRecDepth 100000 in
theorem bo_X8_begin (l : Launch) : ∀ q ∈ bt_X8_begin, bz_rw bz_P l bm_X8_begin q := by
  refine bz_ac (show bz_ok RX8 cX8_begin 0 (bz_aload 0 1) from bz_o_aload_n (k := 0) (i := 0) (by decide +kernel) rfl) ?_
  refine bz_ac (show bz_ok RX8 cX8_begin 1 (bz_getR 7 0) from bz_o_getR (ci := 7) (k := 0) (idx := 12) (C := RX8) (T := TX8) (N := 8) rfl bh_7 rfl rfl (bz_tb 171 (by decide +kernel) (by decide +kernel)) rfl (by decide +kernel)) ?_
  refine bz_ac (show bz_ok RX8 cX8_begin 4 (bz_aload 1 1) from bz_o_aload_n (k := 1) (i := 1) (by decide +kernel) rfl) ?_
  refine bz_ac (show bz_cok bz_P l RX8 cX8_begin 1 22 5 mX6_copy 2 6 from bz_cV' (own := RX8) (idx := 25) (ci := 5) (N := 4) (T := TX6) (n := 1) bp_X6_copy bq_X6_copy (by decide +kernel) (bz_tb 395 (by decide +kernel) (by decide +kernel)) (bz_tb 396 (by decide +kernel) (by decide +kernel)) (bz_tb 397 (by decide +kernel) (by decide +kernel)) rfl rfl (by decide) (by decide)) ?_
  refine bz_ac (show bz_ok RX8 cX8_begin 8 (bz_aload 0 1) from bz_o_aload_n (k := 0) (i := 0) (by decide +kernel) rfl) ?_
  refine bz_ac (show bz_ok RX8 cX8_begin 9 (bz_push (.int 0) 1) from bz_o_iconst (n := 0) (v := 0) (by decide +kernel) (by decide)) ?_
  refine bz_ac (show bz_ok RX8 cX8_begin 10 (bz_putI 7 2) from bz_o_putI (ci := 7) (k := 2) (idx := 29) (C := RX8) (T := TX8) (N := 8) rfl bh_7 rfl rfl (bz_tb 174 (by decide +kernel) (by decide +kernel)) tyX8 tyX8_ok nmX8 rfl rfl rfl (by decide +kernel)) ?_
  refine bz_ac (show bz_ok RX8 cX8_begin 13 (bz_aload 0 1) from bz_o_aload_n (k := 0) (i := 0) (by decide +kernel) rfl) ?_
  refine bz_ac (show bz_ok RX8 cX8_begin 14 (bz_push (.int (-6)) 2) from bz_o_bipush (n := (-6)) (v := (-6)) (by decide +kernel) (by decide)) ?_
  refine bz_ac (show bz_ok RX8 cX8_begin 16 (bz_putI 7 3) from bz_o_putI (ci := 7) (k := 3) (idx := 33) (C := RX8) (T := TX8) (N := 8) rfl bh_7 rfl rfl (bz_tb 176 (by decide +kernel) (by decide +kernel)) tyX8 tyX8_ok nmX8 rfl rfl rfl (by decide +kernel)) ?_
  refine bz_ac (show bz_ok RX8 cX8_begin 19 (bz_aload 0 1) from bz_o_aload_n (k := 0) (i := 0) (by decide +kernel) rfl) ?_
  refine bz_ac (show bz_ok RX8 cX8_begin 20 (bz_push (.int (-6)) 2) from bz_o_bipush (n := (-6)) (v := (-6)) (by decide +kernel) (by decide)) ?_
  refine bz_ac (show bz_ok RX8 cX8_begin 22 (bz_putI 7 4) from bz_o_putI (ci := 7) (k := 4) (idx := 36) (C := RX8) (T := TX8) (N := 8) rfl bh_7 rfl rfl (bz_tb 178 (by decide +kernel) (by decide +kernel)) tyX8 tyX8_ok nmX8 rfl rfl rfl (by decide +kernel)) ?_
  refine bz_ac (show bz_ok RX8 cX8_begin 25 (bz_aload 0 1) from bz_o_aload_n (k := 0) (i := 0) (by decide +kernel) rfl) ?_
  refine bz_ac (show bz_ok RX8 cX8_begin 26 (bz_push (.int 0) 1) from bz_o_iconst (n := 0) (v := 0) (by decide +kernel) (by decide)) ?_
  refine bz_ac (show bz_ok RX8 cX8_begin 27 (bz_putI 7 5) from bz_o_putI (ci := 7) (k := 5) (idx := 39) (C := RX8) (T := TX8) (N := 8) rfl bh_7 rfl rfl (bz_tb 180 (by decide +kernel) (by decide +kernel)) tyX8 tyX8_ok nmX8 rfl rfl rfl (by decide +kernel)) ?_
  refine bz_ac (show bz_ok RX8 cX8_begin 30 (bz_aload 0 1) from bz_o_aload_n (k := 0) (i := 0) (by decide +kernel) rfl) ?_
  refine bz_ac (show bz_ok RX8 cX8_begin 31 (bz_push (.int 0) 1) from bz_o_iconst (n := 0) (v := 0) (by decide +kernel) (by decide)) ?_
  refine bz_ac (show bz_ok RX8 cX8_begin 32 (bz_putI 7 6) from bz_o_putI (ci := 7) (k := 6) (idx := 42) (C := RX8) (T := TX8) (N := 8) rfl bh_7 rfl rfl (bz_tb 182 (by decide +kernel) (by decide +kernel)) tyX8 tyX8_ok nmX8 rfl rfl rfl (by decide +kernel)) ?_
  refine bz_ac (show bz_ok RX8 cX8_begin 35 (bz_aload 0 1) from bz_o_aload_n (k := 0) (i := 0) (by decide +kernel) rfl) ?_
  refine bz_ac (show bz_ok RX8 cX8_begin 36 (bz_push (.int (-6)) 2) from bz_o_bipush (n := (-6)) (v := (-6)) (by decide +kernel) (by decide)) ?_
  refine bz_ac (show bz_ok RX8 cX8_begin 38 (bz_putI 7 7) from bz_o_putI (ci := 7) (k := 7) (idx := 45) (C := RX8) (T := TX8) (N := 8) rfl bh_7 rfl rfl (bz_tb 184 (by decide +kernel) (by decide +kernel)) tyX8 tyX8_ok nmX8 rfl rfl rfl (by decide +kernel)) ?_
  refine bz_ac (show bz_rok cX8_begin none 41 0 from Or.inl ⟨rfl, rfl, by decide +kernel⟩) ?_
  exact bz_an
set_option maxRecDepth 100000 in
theorem bo_X8_play (l : Launch) : ∀ q ∈ bt_X8_play, bz_rw bz_P l bm_X8_play q := by
  refine bz_ac (show bz_ok RX8 cX8_play 0 (bz_aload 0 1) from bz_o_aload_n (k := 0) (i := 0) (by decide +kernel) rfl) ?_
  refine bz_ac (show bz_ok RX8 cX8_play 1 (bz_getR 7 1) from bz_o_getR (ci := 7) (k := 1) (idx := 21) (C := RX8) (T := TX8) (N := 8) rfl bh_7 rfl rfl (bz_tb 173 (by decide +kernel) (by decide +kernel)) rfl (by decide +kernel)) ?_
  refine bz_ac (show bz_ok RX8 cX8_play 4 (bz_aload 0 1) from bz_o_aload_n (k := 0) (i := 0) (by decide +kernel) rfl) ?_
  refine bz_ac (show bz_ok RX8 cX8_play 5 (bz_getR 7 0) from bz_o_getR (ci := 7) (k := 0) (idx := 12) (C := RX8) (T := TX8) (N := 8) rfl bh_7 rfl rfl (bz_tb 171 (by decide +kernel) (by decide +kernel)) rfl (by decide +kernel)) ?_
  refine bz_ac (show bz_ok RX8 cX8_play 8 (bz_iload 1 1) from bz_o_iload_n (k := 1) (i := 1) (by decide +kernel) rfl) ?_
  refine bz_ac (show bz_ok RX8 cX8_play 9 (bz_iload 2 1) from bz_o_iload_n (k := 2) (i := 2) (by decide +kernel) rfl) ?_
  refine bz_ac (show bz_ok RX8 cX8_play 10 (bz_iload 3 1) from bz_o_iload_n (k := 3) (i := 3) (by decide +kernel) rfl) ?_
  refine bz_ac (show bz_cok bz_P l RX8 cX8_play 2 55 11 mX5_run 5 5 from bz_cV' (own := RX8) (idx := 74) (ci := 4) (N := 7) (T := TX5) (n := 4) bp_X5_run bq_X5_run (by decide +kernel) (bz_tb 421 (by decide +kernel) (by decide +kernel)) (bz_tb 422 (by decide +kernel) (by decide +kernel)) (bz_tb 423 (by decide +kernel) (by decide +kernel)) rfl rfl (by decide) (by decide)) ?_
  refine bz_ac (show bz_ok RX8 cX8_play 14 (bz_aload 0 1) from bz_o_aload_n (k := 0) (i := 0) (by decide +kernel) rfl) ?_
  refine bz_ac (show bz_ok RX8 cX8_play 15 (bz_getR 7 0) from bz_o_getR (ci := 7) (k := 0) (idx := 12) (C := RX8) (T := TX8) (N := 8) rfl bh_7 rfl rfl (bz_tb 171 (by decide +kernel) (by decide +kernel)) rfl (by decide +kernel)) ?_
  refine bz_ac (show bz_ok RX8 cX8_play 18 (bz_dup) from bz_o_dup (by decide +kernel)) ?_
  refine bz_ac (show bz_ok RX8 cX8_play 19 (bz_getI 5 1) from bz_o_getI (ci := 5) (k := 1) (idx := 108) (C := RX6) (T := TX6) (N := 4) rfl bh_5 rfl rfl (bz_tb 81 (by decide +kernel) (by decide +kernel)) (Or.inl rfl) (by decide +kernel)) ?_
  refine bz_ac (show bz_ok RX8 cX8_play 22 (bz_aload 0 1) from bz_o_aload_n (k := 0) (i := 0) (by decide +kernel) rfl) ?_
  refine bz_ac (show bz_ok RX8 cX8_play 23 (bz_getR 7 1) from bz_o_getR (ci := 7) (k := 1) (idx := 21) (C := RX8) (T := TX8) (N := 8) rfl bh_7 rfl rfl (bz_tb 173 (by decide +kernel) (by decide +kernel)) rfl (by decide +kernel)) ?_
  refine bz_ac (show bz_cok bz_P l RX8 cX8_play 2 55 26 mX5_pointsMore 1 5 from bz_cV' (own := RX8) (idx := 111) (ci := 4) (N := 7) (T := TX5) (n := 0) bp_X5_pointsMore bq_X5_pointsMore (by decide +kernel) (bz_tb 445 (by decide +kernel) (by decide +kernel)) (bz_tb 446 (by decide +kernel) (by decide +kernel)) (bz_tb 447 (by decide +kernel) (by decide +kernel)) rfl rfl (by decide) (by decide)) ?_
  refine bz_ac (show bz_ok RX8 cX8_play 29 (bz_iadd) from bz_o_iadd (by decide +kernel)) ?_
  refine bz_ac (show bz_ok RX8 cX8_play 30 (bz_putI 5 1) from bz_o_putI (ci := 5) (k := 1) (idx := 108) (C := RX6) (T := TX6) (N := 4) rfl bh_5 rfl rfl (bz_tb 81 (by decide +kernel) (by decide +kernel)) tyX6 tyX6_ok nmX6 rfl rfl rfl (by decide +kernel)) ?_
  refine bz_ac (show bz_ok RX8 cX8_play 33 (bz_aload 0 1) from bz_o_aload_n (k := 0) (i := 0) (by decide +kernel) rfl) ?_
  refine bz_ac (show bz_ok RX8 cX8_play 34 (bz_getR 7 0) from bz_o_getR (ci := 7) (k := 0) (idx := 12) (C := RX8) (T := TX8) (N := 8) rfl bh_7 rfl rfl (bz_tb 171 (by decide +kernel) (by decide +kernel)) rfl (by decide +kernel)) ?_
  refine bz_ac (show bz_ok RX8 cX8_play 37 (bz_dup) from bz_o_dup (by decide +kernel)) ?_
  refine bz_ac (show bz_ok RX8 cX8_play 38 (bz_getI 5 2) from bz_o_getI (ci := 5) (k := 2) (idx := 56) (C := RX6) (T := TX6) (N := 4) rfl bh_5 rfl rfl (bz_tb 83 (by decide +kernel) (by decide +kernel)) (Or.inl rfl) (by decide +kernel)) ?_
  refine bz_ac (show bz_ok RX8 cX8_play 41 (bz_aload 0 1) from bz_o_aload_n (k := 0) (i := 0) (by decide +kernel) rfl) ?_
  refine bz_ac (show bz_ok RX8 cX8_play 42 (bz_getR 7 1) from bz_o_getR (ci := 7) (k := 1) (idx := 21) (C := RX8) (T := TX8) (N := 8) rfl bh_7 rfl rfl (bz_tb 173 (by decide +kernel) (by decide +kernel)) rfl (by decide +kernel)) ?_
  refine bz_ac (show bz_cok bz_P l RX8 cX8_play 2 55 45 mX5_foulsMore 1 5 from bz_cV' (own := RX8) (idx := 115) (ci := 4) (N := 7) (T := TX5) (n := 0) bp_X5_foulsMore bq_X5_foulsMore (by decide +kernel) (bz_tb 449 (by decide +kernel) (by decide +kernel)) (bz_tb 450 (by decide +kernel) (by decide +kernel)) (bz_tb 451 (by decide +kernel) (by decide +kernel)) rfl rfl (by decide) (by decide)) ?_
  refine bz_ac (show bz_ok RX8 cX8_play 48 (bz_iadd) from bz_o_iadd (by decide +kernel)) ?_
  refine bz_ac (show bz_ok RX8 cX8_play 49 (bz_putI 5 2) from bz_o_putI (ci := 5) (k := 2) (idx := 56) (C := RX6) (T := TX6) (N := 4) rfl bh_5 rfl rfl (bz_tb 83 (by decide +kernel) (by decide +kernel)) tyX6 tyX6_ok nmX6 rfl rfl rfl (by decide +kernel)) ?_
  refine bz_ac (show bz_ok RX8 cX8_play 52 (bz_aload 0 1) from bz_o_aload_n (k := 0) (i := 0) (by decide +kernel) rfl) ?_
  refine bz_ac (show bz_ok RX8 cX8_play 53 (bz_dup) from bz_o_dup (by decide +kernel)) ?_
  refine bz_ac (show bz_ok RX8 cX8_play 54 (bz_getI 7 5) from bz_o_getI (ci := 7) (k := 5) (idx := 39) (C := RX8) (T := TX8) (N := 8) rfl bh_7 rfl rfl (bz_tb 180 (by decide +kernel) (by decide +kernel)) (Or.inl rfl) (by decide +kernel)) ?_
  refine bz_ac (show bz_ok RX8 cX8_play 57 (bz_aload 0 1) from bz_o_aload_n (k := 0) (i := 0) (by decide +kernel) rfl) ?_
  refine bz_ac (show bz_ok RX8 cX8_play 58 (bz_getR 7 1) from bz_o_getR (ci := 7) (k := 1) (idx := 21) (C := RX8) (T := TX8) (N := 8) rfl bh_7 rfl rfl (bz_tb 173 (by decide +kernel) (by decide +kernel)) rfl (by decide +kernel)) ?_
  refine bz_ac (show bz_ok RX8 cX8_play 61 (bz_getI 4 1) from bz_o_getI (ci := 4) (k := 1) (idx := 118) (C := RX5) (T := TX5) (N := 7) rfl bh_4 rfl rfl (bz_tb 146 (by decide +kernel) (by decide +kernel)) (Or.inl rfl) (by decide +kernel)) ?_
  refine bz_ac (show bz_ok RX8 cX8_play 64 (bz_iadd) from bz_o_iadd (by decide +kernel)) ?_
  refine bz_ac (show bz_ok RX8 cX8_play 65 (bz_putI 7 5) from bz_o_putI (ci := 7) (k := 5) (idx := 39) (C := RX8) (T := TX8) (N := 8) rfl bh_7 rfl rfl (bz_tb 180 (by decide +kernel) (by decide +kernel)) tyX8 tyX8_ok nmX8 rfl rfl rfl (by decide +kernel)) ?_
  refine bz_ac (show bz_ok RX8 cX8_play 68 (bz_aload 0 1) from bz_o_aload_n (k := 0) (i := 0) (by decide +kernel) rfl) ?_
  refine bz_ac (show bz_ok RX8 cX8_play 69 (bz_dup) from bz_o_dup (by decide +kernel)) ?_
  refine bz_ac (show bz_ok RX8 cX8_play 70 (bz_getI 7 6) from bz_o_getI (ci := 7) (k := 6) (idx := 42) (C := RX8) (T := TX8) (N := 8) rfl bh_7 rfl rfl (bz_tb 182 (by decide +kernel) (by decide +kernel)) (Or.inl rfl) (by decide +kernel)) ?_
  refine bz_ac (show bz_ok RX8 cX8_play 73 (bz_aload 0 1) from bz_o_aload_n (k := 0) (i := 0) (by decide +kernel) rfl) ?_
  refine bz_ac (show bz_ok RX8 cX8_play 74 (bz_getR 7 1) from bz_o_getR (ci := 7) (k := 1) (idx := 21) (C := RX8) (T := TX8) (N := 8) rfl bh_7 rfl rfl (bz_tb 173 (by decide +kernel) (by decide +kernel)) rfl (by decide +kernel)) ?_
  refine bz_ac (show bz_ok RX8 cX8_play 77 (bz_getI 4 2) from bz_o_getI (ci := 4) (k := 2) (idx := 119) (C := RX5) (T := TX5) (N := 7) rfl bh_4 rfl rfl (bz_tb 148 (by decide +kernel) (by decide +kernel)) (Or.inl rfl) (by decide +kernel)) ?_
  refine bz_ac (show bz_ok RX8 cX8_play 80 (bz_iadd) from bz_o_iadd (by decide +kernel)) ?_
  refine bz_ac (show bz_ok RX8 cX8_play 81 (bz_putI 7 6) from bz_o_putI (ci := 7) (k := 6) (idx := 42) (C := RX8) (T := TX8) (N := 8) rfl bh_7 rfl rfl (bz_tb 182 (by decide +kernel) (by decide +kernel)) tyX8 tyX8_ok nmX8 rfl rfl rfl (by decide +kernel)) ?_
  refine bz_ac (show bz_rok cX8_play none 84 0 from Or.inl ⟨rfl, rfl, by decide +kernel⟩) ?_
  exact bz_an
set_option maxRecDepth 100000 in
theorem bo_X8_tryAct (l : Launch) : ∀ q ∈ bt_X8_tryAct, bz_rw bz_P l bm_X8_tryAct q := by
  refine bz_ac (show bz_ok RX8 cX8_tryAct 0 (bz_aload 0 1) from bz_o_aload_n (k := 0) (i := 0) (by decide +kernel) rfl) ?_
  refine bz_ac (show bz_ok RX8 cX8_tryAct 1 (bz_getR 7 0) from bz_o_getR (ci := 7) (k := 0) (idx := 12) (C := RX8) (T := TX8) (N := 8) rfl bh_7 rfl rfl (bz_tb 171 (by decide +kernel) (by decide +kernel)) rfl (by decide +kernel)) ?_
  refine bz_ac (show bz_ok RX8 cX8_tryAct 4 (bz_iload 1 1) from bz_o_iload_n (k := 1) (i := 1) (by decide +kernel) rfl) ?_
  refine bz_ac (show bz_ok RX8 cX8_tryAct 5 (bz_iload 2 1) from bz_o_iload_n (k := 2) (i := 2) (by decide +kernel) rfl) ?_
  refine bz_ac (show bz_cok bz_P l RX8 cX8_tryAct 3 78 6 mX6_reasonAgainst 3 6 from bz_cV' (own := RX8) (idx := 87) (ci := 5) (N := 4) (T := TX6) (n := 2) bp_X6_reasonAgainst bq_X6_reasonAgainst (by decide +kernel) (bz_tb 412 (by decide +kernel) (by decide +kernel)) (bz_tb 413 (by decide +kernel) (by decide +kernel)) (bz_tb 414 (by decide +kernel) (by decide +kernel)) rfl rfl (by decide) (by decide)) ?_
  refine bz_ac (show bz_ok RX8 cX8_tryAct 9 (bz_istore 5 2) from bz_o_istore (i := 5) (by decide +kernel)) ?_
  refine bz_ac (show bz_ok RX8 cX8_tryAct 11 (bz_iload 5 2) from bz_o_iload (i := 5) (by decide +kernel)) ?_
  refine bz_ac (show bz_ok RX8 cX8_tryAct 13 (bz_if_eq 19) from bz_o_if_eq (off := 6) (t := 19) (by decide +kernel) (by decide)) ?_
  refine bz_ac (show bz_ok RX8 cX8_tryAct 16 (bz_iload 5 2) from bz_o_iload (i := 5) (by decide +kernel)) ?_
  refine bz_ac (show bz_rok cX8_tryAct (some .int) 18 1 from Or.inr (Or.inl ⟨rfl, rfl, by decide +kernel⟩)) ?_
  refine bz_ac (show bz_ok RX8 cX8_tryAct 19 (bz_iload 1 1) from bz_o_iload_n (k := 1) (i := 1) (by decide +kernel) rfl) ?_
  refine bz_ac (show bz_ok RX8 cX8_tryAct 20 (bz_switch (bz_mk 0 [48, 59, 76]) 86) from bz_o_table (df := 66) (offs := #[28, 39, 56]) (len := 28) (lo := 0) (hi := 2) (ts := [48, 59, 76]) (d := 86) (by decide +kernel) (by decide) (by decide +kernel) (by decide)) ?_
  refine bz_ac (show bz_ok RX8 cX8_tryAct 48 (bz_aload 0 1) from bz_o_aload_n (k := 0) (i := 0) (by decide +kernel) rfl) ?_
  refine bz_ac (show bz_ok RX8 cX8_tryAct 49 (bz_iload 2 1) from bz_o_iload_n (k := 2) (i := 2) (by decide +kernel) rfl) ?_
  refine bz_ac (show bz_ok RX8 cX8_tryAct 50 (bz_iload 3 1) from bz_o_iload_n (k := 3) (i := 3) (by decide +kernel) rfl) ?_
  refine bz_ac (show bz_ok RX8 cX8_tryAct 51 (bz_iload 4 2) from bz_o_iload (i := 4) (by decide +kernel)) ?_
  refine bz_ac (show bz_cok bz_P l RX8 cX8_tryAct 3 78 53 mX8_play 4 8 from bz_cV' (own := RX8) (idx := 91) (ci := 7) (N := 8) (T := TX8) (n := 3) bp_X8_play bq_X8_play (by decide +kernel) (bz_tb 417 (by decide +kernel) (by decide +kernel)) (bz_tb 419 (by decide +kernel) (by decide +kernel)) (bz_tb 3 (by decide +kernel) (by decide +kernel)) rfl rfl (by decide) (by decide)) ?_
  refine bz_ac (show bz_ok RX8 cX8_tryAct 56 (bz_goto 99) from bz_o_goto (off := 43) (t := 99) (by decide +kernel) (by decide)) ?_
  refine bz_ac (show bz_ok RX8 cX8_tryAct 59 (bz_aload 0 1) from bz_o_aload_n (k := 0) (i := 0) (by decide +kernel) rfl) ?_
  refine bz_ac (show bz_ok RX8 cX8_tryAct 60 (bz_getR 7 0) from bz_o_getR (ci := 7) (k := 0) (idx := 12) (C := RX8) (T := TX8) (N := 8) rfl bh_7 rfl rfl (bz_tb 171 (by decide +kernel) (by decide +kernel)) rfl (by decide +kernel)) ?_
  refine bz_ac (show bz_ok RX8 cX8_tryAct 63 (bz_getR 5 0) from bz_o_getR (ci := 5) (k := 0) (idx := 95) (C := RX6) (T := TX6) (N := 4) rfl bh_5 rfl rfl (bz_tb 78 (by decide +kernel) (by decide +kernel)) rfl (by decide +kernel)) ?_
  refine bz_ac (show bz_ok RX8 cX8_tryAct 66 (bz_iload 2 1) from bz_o_iload_n (k := 2) (i := 2) (by decide +kernel) rfl) ?_
  refine bz_ac (show bz_ok RX8 cX8_tryAct 67 (bz_push (.ref 1000) 3) from bz_o_getsN (own := RX8) (i := 0) (idx := 99) (host := "BaizeCorps") (by decide) (by decide +kernel) (bz_nb 453 (by decide +kernel) rfl)) ?_
  refine bz_ac (show bz_ok RX8 cX8_tryAct 70 (bz_iload 2 1) from bz_o_iload_n (k := 2) (i := 2) (by decide +kernel) rfl) ?_
  refine bz_ac (show bz_ok RX8 cX8_tryAct 71 (bz_iald) from bz_o_iald (by decide +kernel)) ?_
  refine bz_ac (show bz_ok RX8 cX8_tryAct 72 (bz_iast) from bz_o_iast (by decide +kernel)) ?_
  refine bz_ac (show bz_ok RX8 cX8_tryAct 73 (bz_goto 99) from bz_o_goto (off := 26) (t := 99) (by decide +kernel) (by decide)) ?_
  refine bz_ac (show bz_ok RX8 cX8_tryAct 76 (bz_aload 0 1) from bz_o_aload_n (k := 0) (i := 0) (by decide +kernel) rfl) ?_
  refine bz_ac (show bz_ok RX8 cX8_tryAct 77 (bz_getR 7 0) from bz_o_getR (ci := 7) (k := 0) (idx := 12) (C := RX8) (T := TX8) (N := 8) rfl bh_7 rfl rfl (bz_tb 171 (by decide +kernel) (by decide +kernel)) rfl (by decide +kernel)) ?_
  refine bz_ac (show bz_cok bz_P l RX8 cX8_tryAct 3 78 80 mX6_drift 1 6 from bz_cV' (own := RX8) (idx := 102) (ci := 5) (N := 4) (T := TX6) (n := 0) bp_X6_drift bq_X6_drift (by decide +kernel) (bz_tb 454 (by decide +kernel) (by decide +kernel)) (bz_tb 455 (by decide +kernel) (by decide +kernel)) (bz_tb 456 (by decide +kernel) (by decide +kernel)) rfl rfl (by decide) (by decide)) ?_
  refine bz_ac (show bz_ok RX8 cX8_tryAct 83 (bz_goto 99) from bz_o_goto (off := 16) (t := 99) (by decide +kernel) (by decide)) ?_
  refine bz_ac (show bz_ok RX8 cX8_tryAct 86 (bz_aload 0 1) from bz_o_aload_n (k := 0) (i := 0) (by decide +kernel) rfl) ?_
  refine bz_ac (show bz_ok RX8 cX8_tryAct 87 (bz_getR 7 0) from bz_o_getR (ci := 7) (k := 0) (idx := 12) (C := RX8) (T := TX8) (N := 8) rfl bh_7 rfl rfl (bz_tb 171 (by decide +kernel) (by decide +kernel)) rfl (by decide +kernel)) ?_
  refine bz_ac (show bz_ok RX8 cX8_tryAct 90 (bz_dup) from bz_o_dup (by decide +kernel)) ?_
  refine bz_ac (show bz_ok RX8 cX8_tryAct 91 (bz_getI 5 3) from bz_o_getI (ci := 5) (k := 3) (idx := 105) (C := RX6) (T := TX6) (N := 4) rfl bh_5 rfl rfl (bz_tb 86 (by decide +kernel) (by decide +kernel)) (Or.inl rfl) (by decide +kernel)) ?_
  refine bz_ac (show bz_ok RX8 cX8_tryAct 94 (bz_push (.int 1) 1) from bz_o_iconst (n := 1) (v := 1) (by decide +kernel) (by decide)) ?_
  refine bz_ac (show bz_ok RX8 cX8_tryAct 95 (bz_iadd) from bz_o_iadd (by decide +kernel)) ?_
  refine bz_ac (show bz_ok RX8 cX8_tryAct 96 (bz_putI 5 3) from bz_o_putI (ci := 5) (k := 3) (idx := 105) (C := RX6) (T := TX6) (N := 4) rfl bh_5 rfl rfl (bz_tb 86 (by decide +kernel) (by decide +kernel)) tyX6 tyX6_ok nmX6 rfl rfl rfl (by decide +kernel)) ?_
  refine bz_ac (show bz_ok RX8 cX8_tryAct 99 (bz_push (.int 0) 1) from bz_o_iconst (n := 0) (v := 0) (by decide +kernel) (by decide)) ?_
  refine bz_ac (show bz_rok cX8_tryAct (some .int) 100 1 from Or.inr (Or.inl ⟨rfl, rfl, by decide +kernel⟩)) ?_
  exact bz_an
set_option maxRecDepth 100000 in
theorem bo_X8_runText (l : Launch) : ∀ q ∈ bt_X8_runText, bz_rw bz_P l bm_X8_runText q := by
  refine bz_ac (show bz_ok RX8 cX8_runText 0 (bz_aload 0 1) from bz_o_aload_n (k := 0) (i := 0) (by decide +kernel) rfl) ?_
  refine bz_ac (show bz_ok RX8 cX8_runText 1 (bz_aload 2 1) from bz_o_aload_n (k := 2) (i := 2) (by decide +kernel) rfl) ?_
  refine bz_ac (show bz_cok bz_P l RX8 cX8_runText 4 103 2 mX8_begin 2 8 from bz_cV' (own := RX8) (idx := 48) (ci := 7) (N := 8) (T := TX8) (n := 1) bp_X8_begin bq_X8_begin (by decide +kernel) (bz_tb 391 (by decide +kernel) (by decide +kernel)) (bz_tb 393 (by decide +kernel) (by decide +kernel)) (bz_tb 1 (by decide +kernel) (by decide +kernel)) rfl rfl (by decide) (by decide)) ?_
  refine bz_ac (show bz_ok RX8 cX8_runText 5 (bz_push (.int 0) 1) from bz_o_iconst (n := 0) (v := 0) (by decide +kernel) (by decide)) ?_
  refine bz_ac (show bz_ok RX8 cX8_runText 6 (bz_istore 3 1) from bz_o_istore_n (k := 3) (i := 3) (by decide +kernel) rfl) ?_
  refine bz_ac (show bz_ok RX8 cX8_runText 7 (bz_iload 3 1) from bz_o_iload_n (k := 3) (i := 3) (by decide +kernel) rfl) ?_
  refine bz_ac (show bz_ok RX8 cX8_runText 8 (bz_aload 1 1) from bz_o_aload_n (k := 1) (i := 1) (by decide +kernel) rfl) ?_
  refine bz_ac (show bz_ok RX8 cX8_runText 9 (bz_getI 2 1) from bz_o_getI (ci := 2) (k := 1) (idx := 51) (C := RX3) (T := TX3) (N := 2) rfl bh_2 rfl rfl (bz_tb 123 (by decide +kernel) (by decide +kernel)) (Or.inl rfl) (by decide +kernel)) ?_
  refine bz_ac (show bz_ok RX8 cX8_runText 12 (bz_ic_ge 141) from bz_o_ic_ge (off := 129) (t := 141) (by decide +kernel) (by decide)) ?_
  refine bz_ac (show bz_ok RX8 cX8_runText 15 (bz_aload 0 1) from bz_o_aload_n (k := 0) (i := 0) (by decide +kernel) rfl) ?_
  refine bz_ac (show bz_ok RX8 cX8_runText 16 (bz_getI 7 3) from bz_o_getI (ci := 7) (k := 3) (idx := 33) (C := RX8) (T := TX8) (N := 8) rfl bh_7 rfl rfl (bz_tb 176 (by decide +kernel) (by decide +kernel)) (Or.inl rfl) (by decide +kernel)) ?_
  refine bz_ac (show bz_ok RX8 cX8_runText 19 (bz_push (.int (-6)) 2) from bz_o_bipush (n := (-6)) (v := (-6)) (by decide +kernel) (by decide)) ?_
  refine bz_ac (show bz_ok RX8 cX8_runText 21 (bz_ic_ne 141) from bz_o_ic_ne (off := 120) (t := 141) (by decide +kernel) (by decide)) ?_
  refine bz_ac (show bz_ok RX8 cX8_runText 24 (bz_aload 0 1) from bz_o_aload_n (k := 0) (i := 0) (by decide +kernel) rfl) ?_
  refine bz_ac (show bz_ok RX8 cX8_runText 25 (bz_getR 7 0) from bz_o_getR (ci := 7) (k := 0) (idx := 12) (C := RX8) (T := TX8) (N := 8) rfl bh_7 rfl rfl (bz_tb 171 (by decide +kernel) (by decide +kernel)) rfl (by decide +kernel)) ?_
  refine bz_ac (show bz_ok RX8 cX8_runText 28 (bz_getI 5 2) from bz_o_getI (ci := 5) (k := 2) (idx := 56) (C := RX6) (T := TX6) (N := 4) rfl bh_5 rfl rfl (bz_tb 83 (by decide +kernel) (by decide +kernel)) (Or.inl rfl) (by decide +kernel)) ?_
  refine bz_ac (show bz_ok RX8 cX8_runText 31 (bz_istore 4 2) from bz_o_istore (i := 4) (by decide +kernel)) ?_
  refine bz_ac (show bz_ok RX8 cX8_runText 33 (bz_aload 0 1) from bz_o_aload_n (k := 0) (i := 0) (by decide +kernel) rfl) ?_
  refine bz_ac (show bz_ok RX8 cX8_runText 34 (bz_aload 1 1) from bz_o_aload_n (k := 1) (i := 1) (by decide +kernel) rfl) ?_
  refine bz_ac (show bz_ok RX8 cX8_runText 35 (bz_iload 3 1) from bz_o_iload_n (k := 3) (i := 3) (by decide +kernel) rfl) ?_
  refine bz_ac (show bz_cok bz_P l RX8 cX8_runText 4 103 36 mX3_actKind 2 3 from bz_cV' (own := RX8) (idx := 59) (ci := 2) (N := 2) (T := TX3) (n := 1) bp_X3_actKind bq_X3_actKind (by decide +kernel) (bz_tb 399 (by decide +kernel) (by decide +kernel)) (bz_tb 400 (by decide +kernel) (by decide +kernel)) (bz_tb 401 (by decide +kernel) (by decide +kernel)) rfl rfl (by decide) (by decide)) ?_
  refine bz_ac (show bz_ok RX8 cX8_runText 39 (bz_aload 1 1) from bz_o_aload_n (k := 1) (i := 1) (by decide +kernel) rfl) ?_
  refine bz_ac (show bz_ok RX8 cX8_runText 40 (bz_iload 3 1) from bz_o_iload_n (k := 3) (i := 3) (by decide +kernel) rfl) ?_
  refine bz_ac (show bz_cok bz_P l RX8 cX8_runText 4 103 41 mX3_signAt 2 3 from bz_cV' (own := RX8) (idx := 63) (ci := 2) (N := 2) (T := TX3) (n := 1) bp_X3_signAt bq_X3_signAt (by decide +kernel) (bz_tb 407 (by decide +kernel) (by decide +kernel)) (bz_tb 404 (by decide +kernel) (by decide +kernel)) (bz_tb 405 (by decide +kernel) (by decide +kernel)) rfl rfl (by decide) (by decide)) ?_
  refine bz_ac (show bz_ok RX8 cX8_runText 44 (bz_push (.int 65) 2) from bz_o_bipush (n := 65) (v := 65) (by decide +kernel) (by decide)) ?_
  refine bz_ac (show bz_ok RX8 cX8_runText 46 (bz_isub) from bz_o_isub (by decide +kernel)) ?_
  refine bz_ac (show bz_ok RX8 cX8_runText 47 (bz_aload 1 1) from bz_o_aload_n (k := 1) (i := 1) (by decide +kernel) rfl) ?_
  refine bz_ac (show bz_ok RX8 cX8_runText 48 (bz_iload 3 1) from bz_o_iload_n (k := 3) (i := 3) (by decide +kernel) rfl) ?_
  refine bz_ac (show bz_ok RX8 cX8_runText 49 (bz_push (.int 1) 1) from bz_o_iconst (n := 1) (v := 1) (by decide +kernel) (by decide)) ?_
  refine bz_ac (show bz_ok RX8 cX8_runText 50 (bz_iadd) from bz_o_iadd (by decide +kernel)) ?_
  refine bz_ac (show bz_cok bz_P l RX8 cX8_runText 4 103 51 mX3_signAt 2 3 from bz_cV' (own := RX8) (idx := 63) (ci := 2) (N := 2) (T := TX3) (n := 1) bp_X3_signAt bq_X3_signAt (by decide +kernel) (bz_tb 407 (by decide +kernel) (by decide +kernel)) (bz_tb 404 (by decide +kernel) (by decide +kernel)) (bz_tb 405 (by decide +kernel) (by decide +kernel)) rfl rfl (by decide) (by decide)) ?_
  refine bz_ac (show bz_ok RX8 cX8_runText 54 (bz_push (.int 48) 2) from bz_o_bipush (n := 48) (v := 48) (by decide +kernel) (by decide)) ?_
  refine bz_ac (show bz_ok RX8 cX8_runText 56 (bz_isub) from bz_o_isub (by decide +kernel)) ?_
  refine bz_ac (show bz_ok RX8 cX8_runText 57 (bz_aload 1 1) from bz_o_aload_n (k := 1) (i := 1) (by decide +kernel) rfl) ?_
  refine bz_ac (show bz_ok RX8 cX8_runText 58 (bz_iload 3 1) from bz_o_iload_n (k := 3) (i := 3) (by decide +kernel) rfl) ?_
  refine bz_ac (show bz_ok RX8 cX8_runText 59 (bz_push (.int 2) 1) from bz_o_iconst (n := 2) (v := 2) (by decide +kernel) (by decide)) ?_
  refine bz_ac (show bz_ok RX8 cX8_runText 60 (bz_iadd) from bz_o_iadd (by decide +kernel)) ?_
  refine bz_ac (show bz_cok bz_P l RX8 cX8_runText 4 103 61 mX3_signAt 2 3 from bz_cV' (own := RX8) (idx := 63) (ci := 2) (N := 2) (T := TX3) (n := 1) bp_X3_signAt bq_X3_signAt (by decide +kernel) (bz_tb 407 (by decide +kernel) (by decide +kernel)) (bz_tb 404 (by decide +kernel) (by decide +kernel)) (bz_tb 405 (by decide +kernel) (by decide +kernel)) rfl rfl (by decide) (by decide)) ?_
  refine bz_ac (show bz_ok RX8 cX8_runText 64 (bz_push (.int 48) 2) from bz_o_bipush (n := 48) (v := 48) (by decide +kernel) (by decide)) ?_
  refine bz_ac (show bz_ok RX8 cX8_runText 66 (bz_isub) from bz_o_isub (by decide +kernel)) ?_
  refine bz_ac (show bz_cok bz_P l RX8 cX8_runText 4 103 67 mX8_tryAct 5 8 from bz_cV' (own := RX8) (idx := 66) (ci := 7) (N := 8) (T := TX8) (n := 4) bp_X8_tryAct bq_X8_tryAct (by decide +kernel) (bz_tb 408 (by decide +kernel) (by decide +kernel)) (bz_tb 410 (by decide +kernel) (by decide +kernel)) (bz_tb 2 (by decide +kernel) (by decide +kernel)) rfl rfl (by decide) (by decide)) ?_
  refine bz_ac (show bz_ok RX8 cX8_runText 70 (bz_istore 5 2) from bz_o_istore (i := 5) (by decide +kernel)) ?_
  refine bz_ac (show bz_ok RX8 cX8_runText 72 (bz_iload 5 2) from bz_o_iload (i := 5) (by decide +kernel)) ?_
  refine bz_ac (show bz_ok RX8 cX8_runText 74 (bz_if_eq 91) from bz_o_if_eq (off := 17) (t := 91) (by decide +kernel) (by decide)) ?_
  refine bz_ac (show bz_ok RX8 cX8_runText 77 (bz_aload 0 1) from bz_o_aload_n (k := 0) (i := 0) (by decide +kernel) rfl) ?_
  refine bz_ac (show bz_ok RX8 cX8_runText 78 (bz_aload 0 1) from bz_o_aload_n (k := 0) (i := 0) (by decide +kernel) rfl) ?_
  refine bz_ac (show bz_ok RX8 cX8_runText 79 (bz_getI 7 2) from bz_o_getI (ci := 7) (k := 2) (idx := 29) (C := RX8) (T := TX8) (N := 8) rfl bh_7 rfl rfl (bz_tb 174 (by decide +kernel) (by decide +kernel)) (Or.inl rfl) (by decide +kernel)) ?_
  refine bz_ac (show bz_ok RX8 cX8_runText 82 (bz_putI 7 3) from bz_o_putI (ci := 7) (k := 3) (idx := 33) (C := RX8) (T := TX8) (N := 8) rfl bh_7 rfl rfl (bz_tb 176 (by decide +kernel) (by decide +kernel)) tyX8 tyX8_ok nmX8 rfl rfl rfl (by decide +kernel)) ?_
  refine bz_ac (show bz_ok RX8 cX8_runText 85 (bz_aload 0 1) from bz_o_aload_n (k := 0) (i := 0) (by decide +kernel) rfl) ?_
  refine bz_ac (show bz_ok RX8 cX8_runText 86 (bz_iload 5 2) from bz_o_iload (i := 5) (by decide +kernel)) ?_
  refine bz_ac (show bz_ok RX8 cX8_runText 88 (bz_putI 7 4) from bz_o_putI (ci := 7) (k := 4) (idx := 36) (C := RX8) (T := TX8) (N := 8) rfl bh_7 rfl rfl (bz_tb 178 (by decide +kernel) (by decide +kernel)) tyX8 tyX8_ok nmX8 rfl rfl rfl (by decide +kernel)) ?_
  refine bz_ac (show bz_ok RX8 cX8_runText 91 (bz_aload 0 1) from bz_o_aload_n (k := 0) (i := 0) (by decide +kernel) rfl) ?_
  refine bz_ac (show bz_ok RX8 cX8_runText 92 (bz_getI 7 7) from bz_o_getI (ci := 7) (k := 7) (idx := 45) (C := RX8) (T := TX8) (N := 8) rfl bh_7 rfl rfl (bz_tb 184 (by decide +kernel) (by decide +kernel)) (Or.inl rfl) (by decide +kernel)) ?_
  refine bz_ac (show bz_ok RX8 cX8_runText 95 (bz_push (.int (-6)) 2) from bz_o_bipush (n := (-6)) (v := (-6)) (by decide +kernel) (by decide)) ?_
  refine bz_ac (show bz_ok RX8 cX8_runText 97 (bz_ic_ne 120) from bz_o_ic_ne (off := 23) (t := 120) (by decide +kernel) (by decide)) ?_
  refine bz_ac (show bz_ok RX8 cX8_runText 100 (bz_aload 0 1) from bz_o_aload_n (k := 0) (i := 0) (by decide +kernel) rfl) ?_
  refine bz_ac (show bz_ok RX8 cX8_runText 101 (bz_getR 7 0) from bz_o_getR (ci := 7) (k := 0) (idx := 12) (C := RX8) (T := TX8) (N := 8) rfl bh_7 rfl rfl (bz_tb 171 (by decide +kernel) (by decide +kernel)) rfl (by decide +kernel)) ?_
  refine bz_ac (show bz_ok RX8 cX8_runText 104 (bz_getI 5 2) from bz_o_getI (ci := 5) (k := 2) (idx := 56) (C := RX6) (T := TX6) (N := 4) rfl bh_5 rfl rfl (bz_tb 83 (by decide +kernel) (by decide +kernel)) (Or.inl rfl) (by decide +kernel)) ?_
  refine bz_ac (show bz_ok RX8 cX8_runText 107 (bz_iload 4 2) from bz_o_iload (i := 4) (by decide +kernel)) ?_
  refine bz_ac (show bz_ok RX8 cX8_runText 109 (bz_ic_le 120) from bz_o_ic_le (off := 11) (t := 120) (by decide +kernel) (by decide)) ?_
  refine bz_ac (show bz_ok RX8 cX8_runText 112 (bz_aload 0 1) from bz_o_aload_n (k := 0) (i := 0) (by decide +kernel) rfl) ?_
  refine bz_ac (show bz_ok RX8 cX8_runText 113 (bz_aload 0 1) from bz_o_aload_n (k := 0) (i := 0) (by decide +kernel) rfl) ?_
  refine bz_ac (show bz_ok RX8 cX8_runText 114 (bz_getI 7 2) from bz_o_getI (ci := 7) (k := 2) (idx := 29) (C := RX8) (T := TX8) (N := 8) rfl bh_7 rfl rfl (bz_tb 174 (by decide +kernel) (by decide +kernel)) (Or.inl rfl) (by decide +kernel)) ?_
  refine bz_ac (show bz_ok RX8 cX8_runText 117 (bz_putI 7 7) from bz_o_putI (ci := 7) (k := 7) (idx := 45) (C := RX8) (T := TX8) (N := 8) rfl bh_7 rfl rfl (bz_tb 184 (by decide +kernel) (by decide +kernel)) tyX8 tyX8_ok nmX8 rfl rfl rfl (by decide +kernel)) ?_
  refine bz_ac (show bz_ok RX8 cX8_runText 120 (bz_aload 0 1) from bz_o_aload_n (k := 0) (i := 0) (by decide +kernel) rfl) ?_
  refine bz_ac (show bz_ok RX8 cX8_runText 121 (bz_dup) from bz_o_dup (by decide +kernel)) ?_
  refine bz_ac (show bz_ok RX8 cX8_runText 122 (bz_getI 7 2) from bz_o_getI (ci := 7) (k := 2) (idx := 29) (C := RX8) (T := TX8) (N := 8) rfl bh_7 rfl rfl (bz_tb 174 (by decide +kernel) (by decide +kernel)) (Or.inl rfl) (by decide +kernel)) ?_
  refine bz_ac (show bz_ok RX8 cX8_runText 125 (bz_push (.int 1) 1) from bz_o_iconst (n := 1) (v := 1) (by decide +kernel) (by decide)) ?_
  refine bz_ac (show bz_ok RX8 cX8_runText 126 (bz_iadd) from bz_o_iadd (by decide +kernel)) ?_
  refine bz_ac (show bz_ok RX8 cX8_runText 127 (bz_putI 7 2) from bz_o_putI (ci := 7) (k := 2) (idx := 29) (C := RX8) (T := TX8) (N := 8) rfl bh_7 rfl rfl (bz_tb 174 (by decide +kernel) (by decide +kernel)) tyX8 tyX8_ok nmX8 rfl rfl rfl (by decide +kernel)) ?_
  refine bz_ac (show bz_ok RX8 cX8_runText 130 (bz_iload 3 1) from bz_o_iload_n (k := 3) (i := 3) (by decide +kernel) rfl) ?_
  refine bz_ac (show bz_ok RX8 cX8_runText 131 (bz_aload 1 1) from bz_o_aload_n (k := 1) (i := 1) (by decide +kernel) rfl) ?_
  refine bz_ac (show bz_ok RX8 cX8_runText 132 (bz_iload 3 1) from bz_o_iload_n (k := 3) (i := 3) (by decide +kernel) rfl) ?_
  refine bz_ac (show bz_cok bz_P l RX8 cX8_runText 4 103 133 mX3_actLength 2 3 from bz_cV' (own := RX8) (idx := 70) (ci := 2) (N := 2) (T := TX3) (n := 1) bp_X3_actLength bq_X3_actLength (by decide +kernel) (bz_tb 463 (by decide +kernel) (by decide +kernel)) (bz_tb 464 (by decide +kernel) (by decide +kernel)) (bz_tb 465 (by decide +kernel) (by decide +kernel)) rfl rfl (by decide) (by decide)) ?_
  refine bz_ac (show bz_ok RX8 cX8_runText 136 (bz_iadd) from bz_o_iadd (by decide +kernel)) ?_
  refine bz_ac (show bz_ok RX8 cX8_runText 137 (bz_istore 3 1) from bz_o_istore_n (k := 3) (i := 3) (by decide +kernel) rfl) ?_
  refine bz_ac (show bz_ok RX8 cX8_runText 138 (bz_goto 7) from bz_o_goto (off := (-131)) (t := 7) (by decide +kernel) (by decide)) ?_
  refine bz_ac (show bz_rok cX8_runText none 141 0 from Or.inl ⟨rfl, rfl, by decide +kernel⟩) ?_
  exact bz_an
set_option maxRecDepth 100000 in
theorem bo_X8_runSeason (l : Launch) : ∀ q ∈ bt_X8_runSeason, bz_rw bz_P l bm_X8_runSeason q := by
  refine bz_ac (show bz_ok RX8 cX8_runSeason 0 (bz_aload 0 1) from bz_o_aload_n (k := 0) (i := 0) (by decide +kernel) rfl) ?_
  refine bz_ac (show bz_ok RX8 cX8_runSeason 1 (bz_aload 3 1) from bz_o_aload_n (k := 3) (i := 3) (by decide +kernel) rfl) ?_
  refine bz_ac (show bz_cok bz_P l RX8 cX8_runSeason 4 103 2 mX8_begin 2 8 from bz_cV' (own := RX8) (idx := 48) (ci := 7) (N := 8) (T := TX8) (n := 1) bp_X8_begin bq_X8_begin (by decide +kernel) (bz_tb 391 (by decide +kernel) (by decide +kernel)) (bz_tb 393 (by decide +kernel) (by decide +kernel)) (bz_tb 1 (by decide +kernel) (by decide +kernel)) rfl rfl (by decide) (by decide)) ?_
  refine bz_ac (show bz_ok RX8 cX8_runSeason 5 (bz_iload 1 1) from bz_o_iload_n (k := 1) (i := 1) (by decide +kernel) rfl) ?_
  refine bz_ac (show bz_ok RX8 cX8_runSeason 6 (bz_istore 4 2) from bz_o_istore (i := 4) (by decide +kernel)) ?_
  refine bz_ac (show bz_ok RX8 cX8_runSeason 8 (bz_push (.int 0) 1) from bz_o_iconst (n := 0) (v := 0) (by decide +kernel) (by decide)) ?_
  refine bz_ac (show bz_ok RX8 cX8_runSeason 9 (bz_istore 5 2) from bz_o_istore (i := 5) (by decide +kernel)) ?_
  refine bz_ac (show bz_ok RX8 cX8_runSeason 11 (bz_iload 5 2) from bz_o_iload (i := 5) (by decide +kernel)) ?_
  refine bz_ac (show bz_ok RX8 cX8_runSeason 13 (bz_iload 2 1) from bz_o_iload_n (k := 2) (i := 2) (by decide +kernel) rfl) ?_
  refine bz_ac (show bz_ok RX8 cX8_runSeason 14 (bz_ic_ge 90) from bz_o_ic_ge (off := 76) (t := 90) (by decide +kernel) (by decide)) ?_
  refine bz_ac (show bz_ok RX8 cX8_runSeason 17 (bz_push (.int 75) 2) from bz_o_bipush (n := 75) (v := 75) (by decide +kernel) (by decide)) ?_
  refine bz_ac (show bz_ok RX8 cX8_runSeason 19 (bz_iload 4 2) from bz_o_iload (i := 4) (by decide +kernel)) ?_
  refine bz_ac (show bz_ok RX8 cX8_runSeason 21 (bz_imul) from bz_o_imul (by decide +kernel)) ?_
  refine bz_ac (show bz_ok RX8 cX8_runSeason 22 (bz_push (.int 74) 2) from bz_o_bipush (n := 74) (v := 74) (by decide +kernel) (by decide)) ?_
  refine bz_ac (show bz_ok RX8 cX8_runSeason 24 (bz_iadd) from bz_o_iadd (by decide +kernel)) ?_
  refine bz_ac (show bz_ok RX8 cX8_runSeason 25 (bz_push (.int 65537) 2) from bz_o_ldc (own := RX8) (i := 73) (v := 65537) (by decide +kernel) (bz_tb 640 (by decide +kernel) (by decide +kernel))) ?_
  refine bz_ac (show bz_ok RX8 cX8_runSeason 27 (bz_irem) from bz_o_irem (by decide +kernel)) ?_
  refine bz_ac (show bz_ok RX8 cX8_runSeason 28 (bz_istore 4 2) from bz_o_istore (i := 4) (by decide +kernel)) ?_
  refine bz_ac (show bz_ok RX8 cX8_runSeason 30 (bz_iload 4 2) from bz_o_iload (i := 4) (by decide +kernel)) ?_
  refine bz_ac (show bz_ok RX8 cX8_runSeason 32 (bz_push (.int 3) 1) from bz_o_iconst (n := 3) (v := 3) (by decide +kernel) (by decide)) ?_
  refine bz_ac (show bz_ok RX8 cX8_runSeason 33 (bz_idiv) from bz_o_idiv (by decide +kernel)) ?_
  refine bz_ac (show bz_ok RX8 cX8_runSeason 34 (bz_push (.int 8) 2) from bz_o_bipush (n := 8) (v := 8) (by decide +kernel) (by decide)) ?_
  refine bz_ac (show bz_ok RX8 cX8_runSeason 36 (bz_irem) from bz_o_irem (by decide +kernel)) ?_
  refine bz_ac (show bz_ok RX8 cX8_runSeason 37 (bz_istore 6 2) from bz_o_istore (i := 6) (by decide +kernel)) ?_
  refine bz_ac (show bz_ok RX8 cX8_runSeason 39 (bz_iload 4 2) from bz_o_iload (i := 4) (by decide +kernel)) ?_
  refine bz_ac (show bz_ok RX8 cX8_runSeason 41 (bz_push (.int 24) 2) from bz_o_bipush (n := 24) (v := 24) (by decide +kernel) (by decide)) ?_
  refine bz_ac (show bz_ok RX8 cX8_runSeason 43 (bz_idiv) from bz_o_idiv (by decide +kernel)) ?_
  refine bz_ac (show bz_ok RX8 cX8_runSeason 44 (bz_istore 7 2) from bz_o_istore (i := 7) (by decide +kernel)) ?_
  refine bz_ac (show bz_ok RX8 cX8_runSeason 46 (bz_aload 0 1) from bz_o_aload_n (k := 0) (i := 0) (by decide +kernel) rfl) ?_
  refine bz_ac (show bz_ok RX8 cX8_runSeason 47 (bz_iload 6 2) from bz_o_iload (i := 6) (by decide +kernel)) ?_
  refine bz_ac (show bz_ok RX8 cX8_runSeason 49 (bz_push (.int 4) 1) from bz_o_iconst (n := 4) (v := 4) (by decide +kernel) (by decide)) ?_
  refine bz_ac (show bz_ok RX8 cX8_runSeason 50 (bz_ic_gt 57) from bz_o_ic_gt (off := 7) (t := 57) (by decide +kernel) (by decide)) ?_
  refine bz_ac (show bz_ok RX8 cX8_runSeason 53 (bz_push (.int 0) 1) from bz_o_iconst (n := 0) (v := 0) (by decide +kernel) (by decide)) ?_
  refine bz_ac (show bz_ok RX8 cX8_runSeason 54 (bz_goto 61) from bz_o_goto (off := 7) (t := 61) (by decide +kernel) (by decide)) ?_
  refine bz_ac (show bz_ok RX8 cX8_runSeason 57 (bz_iload 6 2) from bz_o_iload (i := 6) (by decide +kernel)) ?_
  refine bz_ac (show bz_ok RX8 cX8_runSeason 59 (bz_push (.int 4) 1) from bz_o_iconst (n := 4) (v := 4) (by decide +kernel) (by decide)) ?_
  refine bz_ac (show bz_ok RX8 cX8_runSeason 60 (bz_isub) from bz_o_isub (by decide +kernel)) ?_
  refine bz_ac (show bz_ok RX8 cX8_runSeason 61 (bz_iload 4 2) from bz_o_iload (i := 4) (by decide +kernel)) ?_
  refine bz_ac (show bz_ok RX8 cX8_runSeason 63 (bz_push (.int 3) 1) from bz_o_iconst (n := 3) (v := 3) (by decide +kernel) (by decide)) ?_
  refine bz_ac (show bz_ok RX8 cX8_runSeason 64 (bz_irem) from bz_o_irem (by decide +kernel)) ?_
  refine bz_ac (show bz_ok RX8 cX8_runSeason 65 (bz_iload 7 2) from bz_o_iload (i := 7) (by decide +kernel)) ?_
  refine bz_ac (show bz_ok RX8 cX8_runSeason 67 (bz_push (.int 8) 2) from bz_o_bipush (n := 8) (v := 8) (by decide +kernel) (by decide)) ?_
  refine bz_ac (show bz_ok RX8 cX8_runSeason 69 (bz_irem) from bz_o_irem (by decide +kernel)) ?_
  refine bz_ac (show bz_ok RX8 cX8_runSeason 70 (bz_push (.int 1) 1) from bz_o_iconst (n := 1) (v := 1) (by decide +kernel) (by decide)) ?_
  refine bz_ac (show bz_ok RX8 cX8_runSeason 71 (bz_iload 7 2) from bz_o_iload (i := 7) (by decide +kernel)) ?_
  refine bz_ac (show bz_ok RX8 cX8_runSeason 73 (bz_push (.int 8) 2) from bz_o_bipush (n := 8) (v := 8) (by decide +kernel) (by decide)) ?_
  refine bz_ac (show bz_ok RX8 cX8_runSeason 75 (bz_idiv) from bz_o_idiv (by decide +kernel)) ?_
  refine bz_ac (show bz_ok RX8 cX8_runSeason 76 (bz_push (.int 9) 2) from bz_o_bipush (n := 9) (v := 9) (by decide +kernel) (by decide)) ?_
  refine bz_ac (show bz_ok RX8 cX8_runSeason 78 (bz_irem) from bz_o_irem (by decide +kernel)) ?_
  refine bz_ac (show bz_ok RX8 cX8_runSeason 79 (bz_iadd) from bz_o_iadd (by decide +kernel)) ?_
  refine bz_ac (show bz_cok bz_P l RX8 cX8_runSeason 4 103 80 mX8_tryAct 5 8 from bz_cV' (own := RX8) (idx := 66) (ci := 7) (N := 8) (T := TX8) (n := 4) bp_X8_tryAct bq_X8_tryAct (by decide +kernel) (bz_tb 408 (by decide +kernel) (by decide +kernel)) (bz_tb 410 (by decide +kernel) (by decide +kernel)) (bz_tb 2 (by decide +kernel) (by decide +kernel)) rfl rfl (by decide) (by decide)) ?_
  refine bz_ac (show bz_ok RX8 cX8_runSeason 83 (bz_pop1) from bz_o_pop (by decide +kernel)) ?_
  refine bz_ac (show bz_ok RX8 cX8_runSeason 84 (bz_iinc 5 1) from bz_o_iinc (i := 5) (n := 1) (v := 1) (by decide +kernel) (by decide)) ?_
  refine bz_ac (show bz_ok RX8 cX8_runSeason 87 (bz_goto 11) from bz_o_goto (off := (-76)) (t := 11) (by decide +kernel) (by decide)) ?_
  refine bz_ac (show bz_rok cX8_runSeason none 90 0 from Or.inl ⟨rfl, rfl, by decide +kernel⟩) ?_
  exact bz_an
set_option maxRecDepth 100000 in
theorem bo_X8_forceToTouch (l : Launch) : ∀ q ∈ bt_X8_forceToTouch, bz_rw bz_P l bm_X8_forceToTouch q := by
  refine bz_ac (show bz_ok RX8 cX8_forceToTouch 0 (bz_aload 0 1) from bz_o_aload_n (k := 0) (i := 0) (by decide +kernel) rfl) ?_
  refine bz_ac (show bz_ok RX8 cX8_forceToTouch 1 (bz_aload 1 1) from bz_o_aload_n (k := 1) (i := 1) (by decide +kernel) rfl) ?_
  refine bz_ac (show bz_cok bz_P l RX8 cX8_forceToTouch 2 55 2 mX8_begin 2 8 from bz_cV' (own := RX8) (idx := 48) (ci := 7) (N := 8) (T := TX8) (n := 1) bp_X8_begin bq_X8_begin (by decide +kernel) (bz_tb 391 (by decide +kernel) (by decide +kernel)) (bz_tb 393 (by decide +kernel) (by decide +kernel)) (bz_tb 1 (by decide +kernel) (by decide +kernel)) rfl rfl (by decide) (by decide)) ?_
  refine bz_ac (show bz_ok RX8 cX8_forceToTouch 5 (bz_aload 0 1) from bz_o_aload_n (k := 0) (i := 0) (by decide +kernel) rfl) ?_
  refine bz_ac (show bz_ok RX8 cX8_forceToTouch 6 (bz_getR 7 1) from bz_o_getR (ci := 7) (k := 1) (idx := 21) (C := RX8) (T := TX8) (N := 8) rfl bh_7 rfl rfl (bz_tb 173 (by decide +kernel) (by decide +kernel)) rfl (by decide +kernel)) ?_
  refine bz_ac (show bz_ok RX8 cX8_forceToTouch 9 (bz_aload 0 1) from bz_o_aload_n (k := 0) (i := 0) (by decide +kernel) rfl) ?_
  refine bz_ac (show bz_ok RX8 cX8_forceToTouch 10 (bz_getR 7 0) from bz_o_getR (ci := 7) (k := 0) (idx := 12) (C := RX8) (T := TX8) (N := 8) rfl bh_7 rfl rfl (bz_tb 171 (by decide +kernel) (by decide +kernel)) rfl (by decide +kernel)) ?_
  refine bz_ac (show bz_ok RX8 cX8_forceToTouch 13 (bz_iload 2 1) from bz_o_iload_n (k := 2) (i := 2) (by decide +kernel) rfl) ?_
  refine bz_ac (show bz_ok RX8 cX8_forceToTouch 14 (bz_iload 3 1) from bz_o_iload_n (k := 3) (i := 3) (by decide +kernel) rfl) ?_
  refine bz_ac (show bz_ok RX8 cX8_forceToTouch 15 (bz_push (.int 9) 2) from bz_o_bipush (n := 9) (v := 9) (by decide +kernel) (by decide)) ?_
  refine bz_ac (show bz_cok bz_P l RX8 cX8_forceToTouch 2 55 17 mX5_run 5 5 from bz_cV' (own := RX8) (idx := 74) (ci := 4) (N := 7) (T := TX5) (n := 4) bp_X5_run bq_X5_run (by decide +kernel) (bz_tb 421 (by decide +kernel) (by decide +kernel)) (bz_tb 422 (by decide +kernel) (by decide +kernel)) (bz_tb 423 (by decide +kernel) (by decide +kernel)) rfl rfl (by decide) (by decide)) ?_
  refine bz_ac (show bz_ok RX8 cX8_forceToTouch 20 (bz_aload 0 1) from bz_o_aload_n (k := 0) (i := 0) (by decide +kernel) rfl) ?_
  refine bz_ac (show bz_ok RX8 cX8_forceToTouch 21 (bz_getR 7 1) from bz_o_getR (ci := 7) (k := 1) (idx := 21) (C := RX8) (T := TX8) (N := 8) rfl bh_7 rfl rfl (bz_tb 173 (by decide +kernel) (by decide +kernel)) rfl (by decide +kernel)) ?_
  refine bz_ac (show bz_ok RX8 cX8_forceToTouch 24 (bz_getI 4 4) from bz_o_getI (ci := 4) (k := 4) (idx := 78) (C := RX5) (T := TX5) (N := 7) rfl bh_4 rfl rfl (bz_tb 151 (by decide +kernel) (by decide +kernel)) (Or.inl rfl) (by decide +kernel)) ?_
  refine bz_ac (show bz_ok RX8 cX8_forceToTouch 27 (bz_iload 4 2) from bz_o_iload (i := 4) (by decide +kernel)) ?_
  refine bz_ac (show bz_ok RX8 cX8_forceToTouch 29 (bz_ic_ne 54) from bz_o_ic_ne (off := 25) (t := 54) (by decide +kernel) (by decide)) ?_
  refine bz_ac (show bz_ok RX8 cX8_forceToTouch 32 (bz_aload 0 1) from bz_o_aload_n (k := 0) (i := 0) (by decide +kernel) rfl) ?_
  refine bz_ac (show bz_ok RX8 cX8_forceToTouch 33 (bz_getR 7 1) from bz_o_getR (ci := 7) (k := 1) (idx := 21) (C := RX8) (T := TX8) (N := 8) rfl bh_7 rfl rfl (bz_tb 173 (by decide +kernel) (by decide +kernel)) rfl (by decide +kernel)) ?_
  refine bz_ac (show bz_ok RX8 cX8_forceToTouch 36 (bz_getI 4 6) from bz_o_getI (ci := 4) (k := 6) (idx := 81) (C := RX5) (T := TX5) (N := 7) rfl bh_4 rfl rfl (bz_tb 155 (by decide +kernel) (by decide +kernel)) (Or.inl rfl) (by decide +kernel)) ?_
  refine bz_ac (show bz_ok RX8 cX8_forceToTouch 39 (bz_iload 5 2) from bz_o_iload (i := 5) (by decide +kernel)) ?_
  refine bz_ac (show bz_ok RX8 cX8_forceToTouch 41 (bz_ic_ne 54) from bz_o_ic_ne (off := 13) (t := 54) (by decide +kernel) (by decide)) ?_
  refine bz_ac (show bz_ok RX8 cX8_forceToTouch 44 (bz_aload 0 1) from bz_o_aload_n (k := 0) (i := 0) (by decide +kernel) rfl) ?_
  refine bz_ac (show bz_ok RX8 cX8_forceToTouch 45 (bz_getR 7 1) from bz_o_getR (ci := 7) (k := 1) (idx := 21) (C := RX8) (T := TX8) (N := 8) rfl bh_7 rfl rfl (bz_tb 173 (by decide +kernel) (by decide +kernel)) rfl (by decide +kernel)) ?_
  refine bz_ac (show bz_ok RX8 cX8_forceToTouch 48 (bz_getI 4 5) from bz_o_getI (ci := 4) (k := 5) (idx := 84) (C := RX5) (T := TX5) (N := 7) rfl bh_4 rfl rfl (bz_tb 153 (by decide +kernel) (by decide +kernel)) (Or.inl rfl) (by decide +kernel)) ?_
  refine bz_ac (show bz_ok RX8 cX8_forceToTouch 51 (bz_goto 56) from bz_o_goto (off := 5) (t := 56) (by decide +kernel) (by decide)) ?_
  refine bz_ac (show bz_ok RX8 cX8_forceToTouch 54 (bz_push (.int (-6)) 2) from bz_o_bipush (n := (-6)) (v := (-6)) (by decide +kernel) (by decide)) ?_
  refine bz_ac (show bz_rok cX8_forceToTouch (some .int) 56 1 from Or.inr (Or.inl ⟨rfl, rfl, by decide +kernel⟩)) ?_
  exact bz_an
set_option maxRecDepth 100000 in
theorem bo_X10_isCell (l : Launch) : ∀ q ∈ bt_X10_isCell, bz_rw bz_P l bm_X10_isCell q := by
  refine bz_ac (show bz_ok RX10 cX10_isCell 0 (bz_iload 0 1) from bz_o_iload_n (k := 0) (i := 0) (by decide +kernel) rfl) ?_
  refine bz_ac (show bz_ok RX10 cX10_isCell 1 (bz_push (.int 0) 1) from bz_o_iconst (n := 0) (v := 0) (by decide +kernel) (by decide)) ?_
  refine bz_ac (show bz_ok RX10 cX10_isCell 2 (bz_push (.int 44) 2) from bz_o_bipush (n := 44) (v := 44) (by decide +kernel) (by decide)) ?_
  refine bz_ac (show bz_cok bz_P l RX10 cX10_isCell 1 22 4 mX10_isWithin 3 0 from bz_cS' (own := RX10) (idx := 83) (n := 3) bp_X10_isWithin bq_X10_isWithin (by decide +kernel) (bz_tb 322 (by decide +kernel) (by decide +kernel)) (bz_tb 323 (by decide +kernel) (by decide +kernel)) rfl (by decide) (by decide)) ?_
  refine bz_ac (show bz_rok cX10_isCell (some .boolean) 7 3 from Or.inr (Or.inr (Or.inr ⟨rfl, rfl, by decide +kernel⟩))) ?_
  exact bz_an
set_option maxRecDepth 100000 in
theorem bo_X10_isPlace (l : Launch) : ∀ q ∈ bt_X10_isPlace, bz_rw bz_P l bm_X10_isPlace q := by
  refine bz_ac (show bz_ok RX10 cX10_isPlace 0 (bz_iload 0 1) from bz_o_iload_n (k := 0) (i := 0) (by decide +kernel) rfl) ?_
  refine bz_ac (show bz_cok bz_P l RX10 cX10_isPlace 2 42 1 mX10_isCell 1 0 from bz_cS' (own := RX10) (idx := 199) (n := 1) bp_X10_isCell bq_X10_isCell (by decide +kernel) (bz_tb 319 (by decide +kernel) (by decide +kernel)) (bz_tb 320 (by decide +kernel) (by decide +kernel)) rfl (by decide) (by decide)) ?_
  refine bz_ac (show bz_ok RX10 cX10_isPlace 4 (bz_if_eq 18) from bz_o_if_eq (off := 14) (t := 18) (by decide +kernel) (by decide)) ?_
  refine bz_ac (show bz_ok RX10 cX10_isPlace 7 (bz_iload 0 1) from bz_o_iload_n (k := 0) (i := 0) (by decide +kernel) rfl) ?_
  refine bz_ac (show bz_cok bz_P l RX10 cX10_isPlace 2 42 8 mX10_isPocket 1 0 from bz_cS' (own := RX10) (idx := 196) (n := 1) bp_X10_isPocket bq_X10_isPocket (by decide +kernel) (bz_tb 325 (by decide +kernel) (by decide +kernel)) (bz_tb 326 (by decide +kernel) (by decide +kernel)) rfl (by decide) (by decide)) ?_
  refine bz_ac (show bz_ok RX10 cX10_isPlace 11 (bz_if_ne 18) from bz_o_if_ne (off := 7) (t := 18) (by decide +kernel) (by decide)) ?_
  refine bz_ac (show bz_ok RX10 cX10_isPlace 14 (bz_push (.int 1) 1) from bz_o_iconst (n := 1) (v := 1) (by decide +kernel) (by decide)) ?_
  refine bz_ac (show bz_ok RX10 cX10_isPlace 15 (bz_goto 19) from bz_o_goto (off := 4) (t := 19) (by decide +kernel) (by decide)) ?_
  refine bz_ac (show bz_ok RX10 cX10_isPlace 18 (bz_push (.int 0) 1) from bz_o_iconst (n := 0) (v := 0) (by decide +kernel) (by decide)) ?_
  refine bz_ac (show bz_rok cX10_isPlace (some .boolean) 19 3 from Or.inr (Or.inr (Or.inr ⟨rfl, rfl, by decide +kernel⟩))) ?_
  exact bz_an
set_option maxRecDepth 100000 in
theorem bo_X9_gather (l : Launch) : ∀ q ∈ bt_X9_gather, bz_rw bz_P l bm_X9_gather q := by
  refine bz_ac (show bz_ok RX9 cX9_gather 0 (bz_aload 0 1) from bz_o_aload_n (k := 0) (i := 0) (by decide +kernel) rfl) ?_
  refine bz_ac (show bz_ok RX9 cX9_gather 1 (bz_push (.int 0) 1) from bz_o_iconst (n := 0) (v := 0) (by decide +kernel) (by decide)) ?_
  refine bz_ac (show bz_ok RX9 cX9_gather 2 (bz_putI 8 1) from bz_o_putI (ci := 8) (k := 1) (idx := 18) (C := RX9) (T := TX9) (N := 5) rfl bh_8 rfl rfl (bz_tb 229 (by decide +kernel) (by decide +kernel)) tyX9 tyX9_ok nmX9 rfl rfl rfl (by decide +kernel)) ?_
  refine bz_ac (show bz_ok RX9 cX9_gather 5 (bz_push (.int 0) 1) from bz_o_iconst (n := 0) (v := 0) (by decide +kernel) (by decide)) ?_
  refine bz_ac (show bz_ok RX9 cX9_gather 6 (bz_istore 3 1) from bz_o_istore_n (k := 3) (i := 3) (by decide +kernel) rfl) ?_
  refine bz_ac (show bz_ok RX9 cX9_gather 7 (bz_iload 3 1) from bz_o_iload_n (k := 3) (i := 3) (by decide +kernel) rfl) ?_
  refine bz_ac (show bz_ok RX9 cX9_gather 8 (bz_push (.int 45) 2) from bz_o_bipush (n := 45) (v := 45) (by decide +kernel) (by decide)) ?_
  refine bz_ac (show bz_ok RX9 cX9_gather 10 (bz_ic_ge 83) from bz_o_ic_ge (off := 73) (t := 83) (by decide +kernel) (by decide)) ?_
  refine bz_ac (show bz_ok RX9 cX9_gather 13 (bz_push (.int 0) 1) from bz_o_iconst (n := 0) (v := 0) (by decide +kernel) (by decide)) ?_
  refine bz_ac (show bz_ok RX9 cX9_gather 14 (bz_istore 4 2) from bz_o_istore (i := 4) (by decide +kernel)) ?_
  refine bz_ac (show bz_ok RX9 cX9_gather 16 (bz_iload 4 2) from bz_o_iload (i := 4) (by decide +kernel)) ?_
  refine bz_ac (show bz_ok RX9 cX9_gather 18 (bz_push (.int 8) 2) from bz_o_bipush (n := 8) (v := 8) (by decide +kernel) (by decide)) ?_
  refine bz_ac (show bz_ok RX9 cX9_gather 20 (bz_ic_ge 77) from bz_o_ic_ge (off := 57) (t := 77) (by decide +kernel) (by decide)) ?_
  refine bz_ac (show bz_ok RX9 cX9_gather 23 (bz_iload 3 1) from bz_o_iload_n (k := 3) (i := 3) (by decide +kernel) rfl) ?_
  refine bz_ac (show bz_cok bz_P l RX9 cX9_gather 3 65 24 mX10_isPlace 1 0 from bz_cN' (own := RX9) (host := "BaizeCorps") (idx := 22) (n := 1) bp_X10_isPlace bq_X10_isPlace (by decide +kernel) (bz_nb 561 (by decide +kernel) rfl) (bz_tb 317 (by decide +kernel) (by decide +kernel)) rfl (by decide) (by decide)) ?_
  refine bz_ac (show bz_ok RX9 cX9_gather 27 (bz_if_eq 77) from bz_o_if_eq (off := 50) (t := 77) (by decide +kernel) (by decide)) ?_
  refine bz_ac (show bz_ok RX9 cX9_gather 30 (bz_aload 2 1) from bz_o_aload_n (k := 2) (i := 2) (by decide +kernel) rfl) ?_
  refine bz_ac (show bz_ok RX9 cX9_gather 31 (bz_iload 3 1) from bz_o_iload_n (k := 3) (i := 3) (by decide +kernel) rfl) ?_
  refine bz_ac (show bz_ok RX9 cX9_gather 32 (bz_iload 4 2) from bz_o_iload (i := 4) (by decide +kernel)) ?_
  refine bz_ac (show bz_cok bz_P l RX9 cX9_gather 3 65 34 mX7_walk 3 7 from bz_cV' (own := RX9) (idx := 26) (ci := 6) (N := 3) (T := TX7) (n := 2) bp_X7_walk bq_X7_walk (by decide +kernel) (bz_tb 562 (by decide +kernel) (by decide +kernel)) (bz_tb 504 (by decide +kernel) (by decide +kernel)) (bz_tb 505 (by decide +kernel) (by decide +kernel)) rfl rfl (by decide) (by decide)) ?_
  refine bz_ac (show bz_ok RX9 cX9_gather 37 (bz_aload 1 1) from bz_o_aload_n (k := 1) (i := 1) (by decide +kernel) rfl) ?_
  refine bz_ac (show bz_ok RX9 cX9_gather 38 (bz_aload 2 1) from bz_o_aload_n (k := 2) (i := 2) (by decide +kernel) rfl) ?_
  refine bz_ac (show bz_cok bz_P l RX9 cX9_gather 3 65 39 mX4_allFit 2 4 from bz_cV' (own := RX9) (idx := 32) (ci := 3) (N := 3) (T := TX4) (n := 1) bp_X4_allFit bq_X4_allFit (by decide +kernel) (bz_tb 563 (by decide +kernel) (by decide +kernel)) (bz_tb 564 (by decide +kernel) (by decide +kernel)) (bz_tb 565 (by decide +kernel) (by decide +kernel)) rfl rfl (by decide) (by decide)) ?_
  refine bz_ac (show bz_ok RX9 cX9_gather 42 (bz_if_eq 71) from bz_o_if_eq (off := 29) (t := 71) (by decide +kernel) (by decide)) ?_
  refine bz_ac (show bz_ok RX9 cX9_gather 45 (bz_aload 0 1) from bz_o_aload_n (k := 0) (i := 0) (by decide +kernel) rfl) ?_
  refine bz_ac (show bz_ok RX9 cX9_gather 46 (bz_getR 8 0) from bz_o_getR (ci := 8) (k := 0) (idx := 9) (C := RX9) (T := TX9) (N := 5) rfl bh_8 rfl rfl (bz_tb 227 (by decide +kernel) (by decide +kernel)) rfl (by decide +kernel)) ?_
  refine bz_ac (show bz_ok RX9 cX9_gather 49 (bz_aload 0 1) from bz_o_aload_n (k := 0) (i := 0) (by decide +kernel) rfl) ?_
  refine bz_ac (show bz_ok RX9 cX9_gather 50 (bz_getI 8 1) from bz_o_getI (ci := 8) (k := 1) (idx := 18) (C := RX9) (T := TX9) (N := 5) rfl bh_8 rfl rfl (bz_tb 229 (by decide +kernel) (by decide +kernel)) (Or.inl rfl) (by decide +kernel)) ?_
  refine bz_ac (show bz_ok RX9 cX9_gather 53 (bz_push (.int 10) 2) from bz_o_bipush (n := 10) (v := 10) (by decide +kernel) (by decide)) ?_
  refine bz_ac (show bz_ok RX9 cX9_gather 55 (bz_iload 3 1) from bz_o_iload_n (k := 3) (i := 3) (by decide +kernel) rfl) ?_
  refine bz_ac (show bz_ok RX9 cX9_gather 56 (bz_imul) from bz_o_imul (by decide +kernel)) ?_
  refine bz_ac (show bz_ok RX9 cX9_gather 57 (bz_iload 4 2) from bz_o_iload (i := 4) (by decide +kernel)) ?_
  refine bz_ac (show bz_ok RX9 cX9_gather 59 (bz_iadd) from bz_o_iadd (by decide +kernel)) ?_
  refine bz_ac (show bz_ok RX9 cX9_gather 60 (bz_iast) from bz_o_iast (by decide +kernel)) ?_
  refine bz_ac (show bz_ok RX9 cX9_gather 61 (bz_aload 0 1) from bz_o_aload_n (k := 0) (i := 0) (by decide +kernel) rfl) ?_
  refine bz_ac (show bz_ok RX9 cX9_gather 62 (bz_dup) from bz_o_dup (by decide +kernel)) ?_
  refine bz_ac (show bz_ok RX9 cX9_gather 63 (bz_getI 8 1) from bz_o_getI (ci := 8) (k := 1) (idx := 18) (C := RX9) (T := TX9) (N := 5) rfl bh_8 rfl rfl (bz_tb 229 (by decide +kernel) (by decide +kernel)) (Or.inl rfl) (by decide +kernel)) ?_
  refine bz_ac (show bz_ok RX9 cX9_gather 66 (bz_push (.int 1) 1) from bz_o_iconst (n := 1) (v := 1) (by decide +kernel) (by decide)) ?_
  refine bz_ac (show bz_ok RX9 cX9_gather 67 (bz_iadd) from bz_o_iadd (by decide +kernel)) ?_
  refine bz_ac (show bz_ok RX9 cX9_gather 68 (bz_putI 8 1) from bz_o_putI (ci := 8) (k := 1) (idx := 18) (C := RX9) (T := TX9) (N := 5) rfl bh_8 rfl rfl (bz_tb 229 (by decide +kernel) (by decide +kernel)) tyX9 tyX9_ok nmX9 rfl rfl rfl (by decide +kernel)) ?_
  refine bz_ac (show bz_ok RX9 cX9_gather 71 (bz_iinc 4 1) from bz_o_iinc (i := 4) (n := 1) (v := 1) (by decide +kernel) (by decide)) ?_
  refine bz_ac (show bz_ok RX9 cX9_gather 74 (bz_goto 16) from bz_o_goto (off := (-58)) (t := 16) (by decide +kernel) (by decide)) ?_
  refine bz_ac (show bz_ok RX9 cX9_gather 77 (bz_iinc 3 1) from bz_o_iinc (i := 3) (n := 1) (v := 1) (by decide +kernel) (by decide)) ?_
  refine bz_ac (show bz_ok RX9 cX9_gather 80 (bz_goto 7) from bz_o_goto (off := (-73)) (t := 7) (by decide +kernel) (by decide)) ?_
  refine bz_ac (show bz_rok cX9_gather none 83 0 from Or.inl ⟨rfl, rfl, by decide +kernel⟩) ?_
  exact bz_an
set_option maxRecDepth 100000 in
theorem bo_X9_countLeft (l : Launch) : ∀ q ∈ bt_X9_countLeft, bz_rw bz_P l bm_X9_countLeft q := by
  refine bz_ac (show bz_ok RX9 cX9_countLeft 0 (bz_push (.int 0) 1) from bz_o_iconst (n := 0) (v := 0) (by decide +kernel) (by decide)) ?_
  refine bz_ac (show bz_ok RX9 cX9_countLeft 1 (bz_istore 2 1) from bz_o_istore_n (k := 2) (i := 2) (by decide +kernel) rfl) ?_
  refine bz_ac (show bz_ok RX9 cX9_countLeft 2 (bz_iload 2 1) from bz_o_iload_n (k := 2) (i := 2) (by decide +kernel) rfl) ?_
  refine bz_ac (show bz_ok RX9 cX9_countLeft 3 (bz_push (.int 720) 3) from bz_o_sipush (n := 720) (v := 720) (by decide +kernel) (by decide)) ?_
  refine bz_ac (show bz_ok RX9 cX9_countLeft 6 (bz_ic_ge 22) from bz_o_ic_ge (off := 16) (t := 22) (by decide +kernel) (by decide)) ?_
  refine bz_ac (show bz_ok RX9 cX9_countLeft 9 (bz_aload 0 1) from bz_o_aload_n (k := 0) (i := 0) (by decide +kernel) rfl) ?_
  refine bz_ac (show bz_ok RX9 cX9_countLeft 10 (bz_getR 8 4) from bz_o_getR (ci := 8) (k := 4) (idx := 15) (C := RX9) (T := TX9) (N := 5) rfl bh_8 rfl rfl (bz_tb 235 (by decide +kernel) (by decide +kernel)) rfl (by decide +kernel)) ?_
  refine bz_ac (show bz_ok RX9 cX9_countLeft 13 (bz_iload 2 1) from bz_o_iload_n (k := 2) (i := 2) (by decide +kernel) rfl) ?_
  refine bz_ac (show bz_ok RX9 cX9_countLeft 14 (bz_push (.int 0) 1) from bz_o_iconst (n := 0) (v := 0) (by decide +kernel) (by decide)) ?_
  refine bz_ac (show bz_ok RX9 cX9_countLeft 15 (bz_iast) from bz_o_iast (by decide +kernel)) ?_
  refine bz_ac (show bz_ok RX9 cX9_countLeft 16 (bz_iinc 2 1) from bz_o_iinc (i := 2) (n := 1) (v := 1) (by decide +kernel) (by decide)) ?_
  refine bz_ac (show bz_ok RX9 cX9_countLeft 19 (bz_goto 2) from bz_o_goto (off := (-17)) (t := 2) (by decide +kernel) (by decide)) ?_
  refine bz_ac (show bz_ok RX9 cX9_countLeft 22 (bz_push (.int 0) 1) from bz_o_iconst (n := 0) (v := 0) (by decide +kernel) (by decide)) ?_
  refine bz_ac (show bz_ok RX9 cX9_countLeft 23 (bz_istore 2 1) from bz_o_istore_n (k := 2) (i := 2) (by decide +kernel) rfl) ?_
  refine bz_ac (show bz_ok RX9 cX9_countLeft 24 (bz_iload 2 1) from bz_o_iload_n (k := 2) (i := 2) (by decide +kernel) rfl) ?_
  refine bz_ac (show bz_ok RX9 cX9_countLeft 25 (bz_aload 0 1) from bz_o_aload_n (k := 0) (i := 0) (by decide +kernel) rfl) ?_
  refine bz_ac (show bz_ok RX9 cX9_countLeft 26 (bz_getI 8 1) from bz_o_getI (ci := 8) (k := 1) (idx := 18) (C := RX9) (T := TX9) (N := 5) rfl bh_8 rfl rfl (bz_tb 229 (by decide +kernel) (by decide +kernel)) (Or.inl rfl) (by decide +kernel)) ?_
  refine bz_ac (show bz_ok RX9 cX9_countLeft 29 (bz_ic_ge 93) from bz_o_ic_ge (off := 64) (t := 93) (by decide +kernel) (by decide)) ?_
  refine bz_ac (show bz_ok RX9 cX9_countLeft 32 (bz_aload 1 1) from bz_o_aload_n (k := 1) (i := 1) (by decide +kernel) rfl) ?_
  refine bz_ac (show bz_ok RX9 cX9_countLeft 33 (bz_aload 0 1) from bz_o_aload_n (k := 0) (i := 0) (by decide +kernel) rfl) ?_
  refine bz_ac (show bz_ok RX9 cX9_countLeft 34 (bz_getR 8 0) from bz_o_getR (ci := 8) (k := 0) (idx := 9) (C := RX9) (T := TX9) (N := 5) rfl bh_8 rfl rfl (bz_tb 227 (by decide +kernel) (by decide +kernel)) rfl (by decide +kernel)) ?_
  refine bz_ac (show bz_ok RX9 cX9_countLeft 37 (bz_iload 2 1) from bz_o_iload_n (k := 2) (i := 2) (by decide +kernel) rfl) ?_
  refine bz_ac (show bz_ok RX9 cX9_countLeft 38 (bz_iald) from bz_o_iald (by decide +kernel)) ?_
  refine bz_ac (show bz_ok RX9 cX9_countLeft 39 (bz_push (.int 10) 2) from bz_o_bipush (n := 10) (v := 10) (by decide +kernel) (by decide)) ?_
  refine bz_ac (show bz_ok RX9 cX9_countLeft 41 (bz_idiv) from bz_o_idiv (by decide +kernel)) ?_
  refine bz_ac (show bz_ok RX9 cX9_countLeft 42 (bz_aload 0 1) from bz_o_aload_n (k := 0) (i := 0) (by decide +kernel) rfl) ?_
  refine bz_ac (show bz_ok RX9 cX9_countLeft 43 (bz_getR 8 0) from bz_o_getR (ci := 8) (k := 0) (idx := 9) (C := RX9) (T := TX9) (N := 5) rfl bh_8 rfl rfl (bz_tb 227 (by decide +kernel) (by decide +kernel)) rfl (by decide +kernel)) ?_
  refine bz_ac (show bz_ok RX9 cX9_countLeft 46 (bz_iload 2 1) from bz_o_iload_n (k := 2) (i := 2) (by decide +kernel) rfl) ?_
  refine bz_ac (show bz_ok RX9 cX9_countLeft 47 (bz_iald) from bz_o_iald (by decide +kernel)) ?_
  refine bz_ac (show bz_ok RX9 cX9_countLeft 48 (bz_push (.int 10) 2) from bz_o_bipush (n := 10) (v := 10) (by decide +kernel) (by decide)) ?_
  refine bz_ac (show bz_ok RX9 cX9_countLeft 50 (bz_irem) from bz_o_irem (by decide +kernel)) ?_
  refine bz_ac (show bz_cok bz_P l RX9 cX9_countLeft 2 49 51 mX7_walk 3 7 from bz_cV' (own := RX9) (idx := 26) (ci := 6) (N := 3) (T := TX7) (n := 2) bp_X7_walk bq_X7_walk (by decide +kernel) (bz_tb 562 (by decide +kernel) (by decide +kernel)) (bz_tb 504 (by decide +kernel) (by decide +kernel)) (bz_tb 505 (by decide +kernel) (by decide +kernel)) rfl rfl (by decide) (by decide)) ?_
  refine bz_ac (show bz_ok RX9 cX9_countLeft 54 (bz_push (.int 0) 1) from bz_o_iconst (n := 0) (v := 0) (by decide +kernel) (by decide)) ?_
  refine bz_ac (show bz_ok RX9 cX9_countLeft 55 (bz_istore 3 1) from bz_o_istore_n (k := 3) (i := 3) (by decide +kernel) rfl) ?_
  refine bz_ac (show bz_ok RX9 cX9_countLeft 56 (bz_iload 3 1) from bz_o_iload_n (k := 3) (i := 3) (by decide +kernel) rfl) ?_
  refine bz_ac (show bz_ok RX9 cX9_countLeft 57 (bz_push (.int 16) 2) from bz_o_bipush (n := 16) (v := 16) (by decide +kernel) (by decide)) ?_
  refine bz_ac (show bz_ok RX9 cX9_countLeft 59 (bz_ic_ge 87) from bz_o_ic_ge (off := 28) (t := 87) (by decide +kernel) (by decide)) ?_
  refine bz_ac (show bz_ok RX9 cX9_countLeft 62 (bz_aload 0 1) from bz_o_aload_n (k := 0) (i := 0) (by decide +kernel) rfl) ?_
  refine bz_ac (show bz_ok RX9 cX9_countLeft 63 (bz_getR 8 4) from bz_o_getR (ci := 8) (k := 4) (idx := 15) (C := RX9) (T := TX9) (N := 5) rfl bh_8 rfl rfl (bz_tb 235 (by decide +kernel) (by decide +kernel)) rfl (by decide +kernel)) ?_
  refine bz_ac (show bz_ok RX9 cX9_countLeft 66 (bz_iload 3 1) from bz_o_iload_n (k := 3) (i := 3) (by decide +kernel) rfl) ?_
  refine bz_ac (show bz_ok RX9 cX9_countLeft 67 (bz_push (.int 45) 2) from bz_o_bipush (n := 45) (v := 45) (by decide +kernel) (by decide)) ?_
  refine bz_ac (show bz_ok RX9 cX9_countLeft 69 (bz_imul) from bz_o_imul (by decide +kernel)) ?_
  refine bz_ac (show bz_ok RX9 cX9_countLeft 70 (bz_aload 1 1) from bz_o_aload_n (k := 1) (i := 1) (by decide +kernel) rfl) ?_
  refine bz_ac (show bz_ok RX9 cX9_countLeft 71 (bz_iload 3 1) from bz_o_iload_n (k := 3) (i := 3) (by decide +kernel) rfl) ?_
  refine bz_ac (show bz_cok bz_P l RX9 cX9_countLeft 2 49 72 mX7_cellBehind 2 7 from bz_cV' (own := RX9) (idx := 52) (ci := 6) (N := 3) (T := TX7) (n := 1) bp_X7_cellBehind bq_X7_cellBehind (by decide +kernel) (bz_tb 580 (by decide +kernel) (by decide +kernel)) (bz_tb 513 (by decide +kernel) (by decide +kernel)) (bz_tb 514 (by decide +kernel) (by decide +kernel)) rfl rfl (by decide) (by decide)) ?_
  refine bz_ac (show bz_ok RX9 cX9_countLeft 75 (bz_iadd) from bz_o_iadd (by decide +kernel)) ?_
  refine bz_ac (show bz_ok RX9 cX9_countLeft 76 (bz_dup2) from bz_o_dup2 (by decide +kernel)) ?_
  refine bz_ac (show bz_ok RX9 cX9_countLeft 77 (bz_iald) from bz_o_iald (by decide +kernel)) ?_
  refine bz_ac (show bz_ok RX9 cX9_countLeft 78 (bz_push (.int 1) 1) from bz_o_iconst (n := 1) (v := 1) (by decide +kernel) (by decide)) ?_
  refine bz_ac (show bz_ok RX9 cX9_countLeft 79 (bz_iadd) from bz_o_iadd (by decide +kernel)) ?_
  refine bz_ac (show bz_ok RX9 cX9_countLeft 80 (bz_iast) from bz_o_iast (by decide +kernel)) ?_
  refine bz_ac (show bz_ok RX9 cX9_countLeft 81 (bz_iinc 3 1) from bz_o_iinc (i := 3) (n := 1) (v := 1) (by decide +kernel) (by decide)) ?_
  refine bz_ac (show bz_ok RX9 cX9_countLeft 84 (bz_goto 56) from bz_o_goto (off := (-28)) (t := 56) (by decide +kernel) (by decide)) ?_
  refine bz_ac (show bz_ok RX9 cX9_countLeft 87 (bz_iinc 2 1) from bz_o_iinc (i := 2) (n := 1) (v := 1) (by decide +kernel) (by decide)) ?_
  refine bz_ac (show bz_ok RX9 cX9_countLeft 90 (bz_goto 24) from bz_o_goto (off := (-66)) (t := 24) (by decide +kernel) (by decide)) ?_
  refine bz_ac (show bz_rok cX9_countLeft none 93 0 from Or.inl ⟨rfl, rfl, by decide +kernel⟩) ?_
  exact bz_an
set_option maxRecDepth 100000 in
theorem bo_J9_max_7cf53 (l : Launch) : ∀ q ∈ bt_J9_max_7cf53, bz_rw bz_P l bm_J9_max_7cf53 q := by
  refine bz_ac (show bz_ok RJ9 cJ9_max_7cf53 0 (bz_iload 0 1) from bz_o_iload_n (k := 0) (i := 0) (by decide +kernel) rfl) ?_
  refine bz_ac (show bz_ok RJ9 cJ9_max_7cf53 1 (bz_iload 1 1) from bz_o_iload_n (k := 1) (i := 1) (by decide +kernel) rfl) ?_
  refine bz_ac (show bz_ok RJ9 cJ9_max_7cf53 2 (bz_ic_lt 9) from bz_o_ic_lt (off := 7) (t := 9) (by decide +kernel) (by decide)) ?_
  refine bz_ac (show bz_ok RJ9 cJ9_max_7cf53 5 (bz_iload 0 1) from bz_o_iload_n (k := 0) (i := 0) (by decide +kernel) rfl) ?_
  refine bz_ac (show bz_ok RJ9 cJ9_max_7cf53 6 (bz_goto 10) from bz_o_goto (off := 4) (t := 10) (by decide +kernel) (by decide)) ?_
  refine bz_ac (show bz_ok RJ9 cJ9_max_7cf53 9 (bz_iload 1 1) from bz_o_iload_n (k := 1) (i := 1) (by decide +kernel) rfl) ?_
  refine bz_ac (show bz_rok cJ9_max_7cf53 (some .int) 10 1 from Or.inr (Or.inl ⟨rfl, rfl, by decide +kernel⟩)) ?_
  exact bz_an
set_option maxRecDepth 100000 in
theorem bo_X9_mostLeftAt (l : Launch) : ∀ q ∈ bt_X9_mostLeftAt, bz_rw bz_P l bm_X9_mostLeftAt q := by
  refine bz_ac (show bz_ok RX9 cX9_mostLeftAt 0 (bz_push (.int 0) 1) from bz_o_iconst (n := 0) (v := 0) (by decide +kernel) (by decide)) ?_
  refine bz_ac (show bz_ok RX9 cX9_mostLeftAt 1 (bz_istore 2 1) from bz_o_istore_n (k := 2) (i := 2) (by decide +kernel) rfl) ?_
  refine bz_ac (show bz_ok RX9 cX9_mostLeftAt 2 (bz_push (.int 0) 1) from bz_o_iconst (n := 0) (v := 0) (by decide +kernel) (by decide)) ?_
  refine bz_ac (show bz_ok RX9 cX9_mostLeftAt 3 (bz_istore 3 1) from bz_o_istore_n (k := 3) (i := 3) (by decide +kernel) rfl) ?_
  refine bz_ac (show bz_ok RX9 cX9_mostLeftAt 4 (bz_iload 3 1) from bz_o_iload_n (k := 3) (i := 3) (by decide +kernel) rfl) ?_
  refine bz_ac (show bz_ok RX9 cX9_mostLeftAt 5 (bz_push (.int 45) 2) from bz_o_bipush (n := 45) (v := 45) (by decide +kernel) (by decide)) ?_
  refine bz_ac (show bz_ok RX9 cX9_mostLeftAt 7 (bz_ic_ge 32) from bz_o_ic_ge (off := 25) (t := 32) (by decide +kernel) (by decide)) ?_
  refine bz_ac (show bz_ok RX9 cX9_mostLeftAt 10 (bz_iload 2 1) from bz_o_iload_n (k := 2) (i := 2) (by decide +kernel) rfl) ?_
  refine bz_ac (show bz_ok RX9 cX9_mostLeftAt 11 (bz_aload 0 1) from bz_o_aload_n (k := 0) (i := 0) (by decide +kernel) rfl) ?_
  refine bz_ac (show bz_ok RX9 cX9_mostLeftAt 12 (bz_getR 8 4) from bz_o_getR (ci := 8) (k := 4) (idx := 15) (C := RX9) (T := TX9) (N := 5) rfl bh_8 rfl rfl (bz_tb 235 (by decide +kernel) (by decide +kernel)) rfl (by decide +kernel)) ?_
  refine bz_ac (show bz_ok RX9 cX9_mostLeftAt 15 (bz_iload 1 1) from bz_o_iload_n (k := 1) (i := 1) (by decide +kernel) rfl) ?_
  refine bz_ac (show bz_ok RX9 cX9_mostLeftAt 16 (bz_push (.int 45) 2) from bz_o_bipush (n := 45) (v := 45) (by decide +kernel) (by decide)) ?_
  refine bz_ac (show bz_ok RX9 cX9_mostLeftAt 18 (bz_imul) from bz_o_imul (by decide +kernel)) ?_
  refine bz_ac (show bz_ok RX9 cX9_mostLeftAt 19 (bz_iload 3 1) from bz_o_iload_n (k := 3) (i := 3) (by decide +kernel) rfl) ?_
  refine bz_ac (show bz_ok RX9 cX9_mostLeftAt 20 (bz_iadd) from bz_o_iadd (by decide +kernel)) ?_
  refine bz_ac (show bz_ok RX9 cX9_mostLeftAt 21 (bz_iald) from bz_o_iald (by decide +kernel)) ?_
  refine bz_ac (show bz_cok bz_P l RX9 cX9_mostLeftAt 1 21 22 mJ9_max_7cf53 2 0 from bz_cS' (own := RX9) (idx := 55) (n := 2) bp_J9_max_7cf53 bq_J9_max_7cf53 (by decide +kernel) (bz_tb 585 (by decide +kernel) (by decide +kernel)) (bz_tb 586 (by decide +kernel) (by decide +kernel)) rfl (by decide) (by decide)) ?_
  refine bz_ac (show bz_ok RX9 cX9_mostLeftAt 25 (bz_istore 2 1) from bz_o_istore_n (k := 2) (i := 2) (by decide +kernel) rfl) ?_
  refine bz_ac (show bz_ok RX9 cX9_mostLeftAt 26 (bz_iinc 3 1) from bz_o_iinc (i := 3) (n := 1) (v := 1) (by decide +kernel) (by decide)) ?_
  refine bz_ac (show bz_ok RX9 cX9_mostLeftAt 29 (bz_goto 4) from bz_o_goto (off := (-25)) (t := 4) (by decide +kernel) (by decide)) ?_
  refine bz_ac (show bz_ok RX9 cX9_mostLeftAt 32 (bz_iload 2 1) from bz_o_iload_n (k := 2) (i := 2) (by decide +kernel) rfl) ?_
  refine bz_ac (show bz_rok cX9_mostLeftAt (some .int) 33 1 from Or.inr (Or.inl ⟨rfl, rfl, by decide +kernel⟩)) ?_
  exact bz_an
set_option maxRecDepth 100000 in
theorem bo_X9_chooseStep (l : Launch) : ∀ q ∈ bt_X9_chooseStep, bz_rw bz_P l bm_X9_chooseStep q := by
  refine bz_ac (show bz_ok RX9 cX9_chooseStep 0 (bz_aload 0 1) from bz_o_aload_n (k := 0) (i := 0) (by decide +kernel) rfl) ?_
  refine bz_ac (show bz_ok RX9 cX9_chooseStep 1 (bz_aload 1 1) from bz_o_aload_n (k := 1) (i := 1) (by decide +kernel) rfl) ?_
  refine bz_ac (show bz_cok bz_P l RX9 cX9_chooseStep 3 72 2 mX9_countLeft 2 9 from bz_cV' (own := RX9) (idx := 38) (ci := 8) (N := 5) (T := TX9) (n := 1) bp_X9_countLeft bq_X9_countLeft (by decide +kernel) (bz_tb 576 (by decide +kernel) (by decide +kernel)) (bz_tb 578 (by decide +kernel) (by decide +kernel)) (bz_tb 7 (by decide +kernel) (by decide +kernel)) rfl rfl (by decide) (by decide)) ?_
  refine bz_ac (show bz_ok RX9 cX9_chooseStep 5 (bz_aload 0 1) from bz_o_aload_n (k := 0) (i := 0) (by decide +kernel) rfl) ?_
  refine bz_ac (show bz_ok RX9 cX9_chooseStep 6 (bz_push (.int (-6)) 2) from bz_o_bipush (n := (-6)) (v := (-6)) (by decide +kernel) (by decide)) ?_
  refine bz_ac (show bz_ok RX9 cX9_chooseStep 8 (bz_putI 8 2) from bz_o_putI (ci := 8) (k := 2) (idx := 42) (C := RX9) (T := TX9) (N := 5) rfl bh_8 rfl rfl (bz_tb 231 (by decide +kernel) (by decide +kernel)) tyX9 tyX9_ok nmX9 rfl rfl rfl (by decide +kernel)) ?_
  refine bz_ac (show bz_ok RX9 cX9_chooseStep 11 (bz_aload 0 1) from bz_o_aload_n (k := 0) (i := 0) (by decide +kernel) rfl) ?_
  refine bz_ac (show bz_ok RX9 cX9_chooseStep 12 (bz_push (.int (-6)) 2) from bz_o_bipush (n := (-6)) (v := (-6)) (by decide +kernel) (by decide)) ?_
  refine bz_ac (show bz_ok RX9 cX9_chooseStep 14 (bz_putI 8 3) from bz_o_putI (ci := 8) (k := 3) (idx := 45) (C := RX9) (T := TX9) (N := 5) rfl bh_8 rfl rfl (bz_tb 233 (by decide +kernel) (by decide +kernel)) tyX9 tyX9_ok nmX9 rfl rfl rfl (by decide +kernel)) ?_
  refine bz_ac (show bz_ok RX9 cX9_chooseStep 17 (bz_push (.int 0) 1) from bz_o_iconst (n := 0) (v := 0) (by decide +kernel) (by decide)) ?_
  refine bz_ac (show bz_ok RX9 cX9_chooseStep 18 (bz_istore 2 1) from bz_o_istore_n (k := 2) (i := 2) (by decide +kernel) rfl) ?_
  refine bz_ac (show bz_ok RX9 cX9_chooseStep 19 (bz_iload 2 1) from bz_o_iload_n (k := 2) (i := 2) (by decide +kernel) rfl) ?_
  refine bz_ac (show bz_ok RX9 cX9_chooseStep 20 (bz_push (.int 16) 2) from bz_o_bipush (n := 16) (v := 16) (by decide +kernel) (by decide)) ?_
  refine bz_ac (show bz_ok RX9 cX9_chooseStep 22 (bz_ic_ge 64) from bz_o_ic_ge (off := 42) (t := 64) (by decide +kernel) (by decide)) ?_
  refine bz_ac (show bz_ok RX9 cX9_chooseStep 25 (bz_aload 0 1) from bz_o_aload_n (k := 0) (i := 0) (by decide +kernel) rfl) ?_
  refine bz_ac (show bz_ok RX9 cX9_chooseStep 26 (bz_iload 2 1) from bz_o_iload_n (k := 2) (i := 2) (by decide +kernel) rfl) ?_
  refine bz_ac (show bz_cok bz_P l RX9 cX9_chooseStep 3 72 27 mX9_mostLeftAt 2 9 from bz_cV' (own := RX9) (idx := 48) (ci := 8) (N := 5) (T := TX9) (n := 1) bp_X9_mostLeftAt bq_X9_mostLeftAt (by decide +kernel) (bz_tb 581 (by decide +kernel) (by decide +kernel)) (bz_tb 583 (by decide +kernel) (by decide +kernel)) (bz_tb 8 (by decide +kernel) (by decide +kernel)) rfl rfl (by decide) (by decide)) ?_
  refine bz_ac (show bz_ok RX9 cX9_chooseStep 30 (bz_istore 3 1) from bz_o_istore_n (k := 3) (i := 3) (by decide +kernel) rfl) ?_
  refine bz_ac (show bz_ok RX9 cX9_chooseStep 31 (bz_aload 0 1) from bz_o_aload_n (k := 0) (i := 0) (by decide +kernel) rfl) ?_
  refine bz_ac (show bz_ok RX9 cX9_chooseStep 32 (bz_getI 8 2) from bz_o_getI (ci := 8) (k := 2) (idx := 42) (C := RX9) (T := TX9) (N := 5) rfl bh_8 rfl rfl (bz_tb 231 (by decide +kernel) (by decide +kernel)) (Or.inl rfl) (by decide +kernel)) ?_
  refine bz_ac (show bz_ok RX9 cX9_chooseStep 35 (bz_push (.int (-6)) 2) from bz_o_bipush (n := (-6)) (v := (-6)) (by decide +kernel) (by decide)) ?_
  refine bz_ac (show bz_ok RX9 cX9_chooseStep 37 (bz_ic_eq 48) from bz_o_ic_eq (off := 11) (t := 48) (by decide +kernel) (by decide)) ?_
  refine bz_ac (show bz_ok RX9 cX9_chooseStep 40 (bz_iload 3 1) from bz_o_iload_n (k := 3) (i := 3) (by decide +kernel) rfl) ?_
  refine bz_ac (show bz_ok RX9 cX9_chooseStep 41 (bz_aload 0 1) from bz_o_aload_n (k := 0) (i := 0) (by decide +kernel) rfl) ?_
  refine bz_ac (show bz_ok RX9 cX9_chooseStep 42 (bz_getI 8 3) from bz_o_getI (ci := 8) (k := 3) (idx := 45) (C := RX9) (T := TX9) (N := 5) rfl bh_8 rfl rfl (bz_tb 233 (by decide +kernel) (by decide +kernel)) (Or.inl rfl) (by decide +kernel)) ?_
  refine bz_ac (show bz_ok RX9 cX9_chooseStep 45 (bz_ic_ge 58) from bz_o_ic_ge (off := 13) (t := 58) (by decide +kernel) (by decide)) ?_
  refine bz_ac (show bz_ok RX9 cX9_chooseStep 48 (bz_aload 0 1) from bz_o_aload_n (k := 0) (i := 0) (by decide +kernel) rfl) ?_
  refine bz_ac (show bz_ok RX9 cX9_chooseStep 49 (bz_iload 2 1) from bz_o_iload_n (k := 2) (i := 2) (by decide +kernel) rfl) ?_
  refine bz_ac (show bz_ok RX9 cX9_chooseStep 50 (bz_putI 8 2) from bz_o_putI (ci := 8) (k := 2) (idx := 42) (C := RX9) (T := TX9) (N := 5) rfl bh_8 rfl rfl (bz_tb 231 (by decide +kernel) (by decide +kernel)) tyX9 tyX9_ok nmX9 rfl rfl rfl (by decide +kernel)) ?_
  refine bz_ac (show bz_ok RX9 cX9_chooseStep 53 (bz_aload 0 1) from bz_o_aload_n (k := 0) (i := 0) (by decide +kernel) rfl) ?_
  refine bz_ac (show bz_ok RX9 cX9_chooseStep 54 (bz_iload 3 1) from bz_o_iload_n (k := 3) (i := 3) (by decide +kernel) rfl) ?_
  refine bz_ac (show bz_ok RX9 cX9_chooseStep 55 (bz_putI 8 3) from bz_o_putI (ci := 8) (k := 3) (idx := 45) (C := RX9) (T := TX9) (N := 5) rfl bh_8 rfl rfl (bz_tb 233 (by decide +kernel) (by decide +kernel)) tyX9 tyX9_ok nmX9 rfl rfl rfl (by decide +kernel)) ?_
  refine bz_ac (show bz_ok RX9 cX9_chooseStep 58 (bz_iinc 2 1) from bz_o_iinc (i := 2) (n := 1) (v := 1) (by decide +kernel) (by decide)) ?_
  refine bz_ac (show bz_ok RX9 cX9_chooseStep 61 (bz_goto 19) from bz_o_goto (off := (-42)) (t := 19) (by decide +kernel) (by decide)) ?_
  refine bz_ac (show bz_rok cX9_chooseStep none 64 0 from Or.inl ⟨rfl, rfl, by decide +kernel⟩) ?_
  exact bz_an
set_option maxRecDepth 100000 in
theorem bo_X10_ball (l : Launch) : ∀ q ∈ bt_X10_ball, bz_rw bz_P l bm_X10_ball q := by
  refine bz_ac (show bz_ok RX10 cX10_ball 0 (bz_iload 1 1) from bz_o_iload_n (k := 1) (i := 1) (by decide +kernel) rfl) ?_
  refine bz_ac (show bz_cok bz_P l RX10 cX10_ball 3 62 1 mX10_isBall 1 0 from bz_cS' (own := RX10) (idx := 65) (n := 1) bp_X10_isBall bq_X10_isBall (by decide +kernel) (bz_tb 313 (by decide +kernel) (by decide +kernel)) (bz_tb 314 (by decide +kernel) (by decide +kernel)) rfl (by decide) (by decide)) ?_
  refine bz_ac (show bz_ok RX10 cX10_ball 4 (bz_if_eq 19) from bz_o_if_eq (off := 15) (t := 19) (by decide +kernel) (by decide)) ?_
  refine bz_ac (show bz_ok RX10 cX10_ball 7 (bz_iload 2 1) from bz_o_iload_n (k := 2) (i := 2) (by decide +kernel) rfl) ?_
  refine bz_ac (show bz_ok RX10 cX10_ball 8 (bz_push (.int (-1)) 1) from bz_o_iconst (n := (-1)) (v := (-1)) (by decide +kernel) (by decide)) ?_
  refine bz_ac (show bz_ok RX10 cX10_ball 9 (bz_ic_eq 21) from bz_o_ic_eq (off := 12) (t := 21) (by decide +kernel) (by decide)) ?_
  refine bz_ac (show bz_ok RX10 cX10_ball 12 (bz_iload 2 1) from bz_o_iload_n (k := 2) (i := 2) (by decide +kernel) rfl) ?_
  refine bz_ac (show bz_cok bz_P l RX10 cX10_ball 3 62 13 mX10_isPlace 1 0 from bz_cS' (own := RX10) (idx := 69) (n := 1) bp_X10_isPlace bq_X10_isPlace (by decide +kernel) (bz_tb 316 (by decide +kernel) (by decide +kernel)) (bz_tb 317 (by decide +kernel) (by decide +kernel)) rfl (by decide) (by decide)) ?_
  refine bz_ac (show bz_ok RX10 cX10_ball 16 (bz_if_ne 21) from bz_o_if_ne (off := 5) (t := 21) (by decide +kernel) (by decide)) ?_
  refine bz_ac (show bz_ok RX10 cX10_ball 19 (bz_push (.int (-1)) 1) from bz_o_iconst (n := (-1)) (v := (-1)) (by decide +kernel) (by decide)) ?_
  refine bz_ac (show bz_rok cX10_ball (some .int) 20 1 from Or.inr (Or.inl ⟨rfl, rfl, by decide +kernel⟩)) ?_
  refine bz_ac (show bz_ok RX10 cX10_ball 21 (bz_aload 0 1) from bz_o_aload_n (k := 0) (i := 0) (by decide +kernel) rfl) ?_
  refine bz_ac (show bz_ok RX10 cX10_ball 22 (bz_getR 9 0) from bz_o_getR (ci := 9) (k := 0) (idx := 12) (C := RX10) (T := TX10) (N := 8) rfl bh_9 rfl rfl (bz_tb 284 (by decide +kernel) (by decide +kernel)) rfl (by decide +kernel)) ?_
  refine bz_ac (show bz_ok RX10 cX10_ball 25 (bz_iload 2 1) from bz_o_iload_n (k := 2) (i := 2) (by decide +kernel) rfl) ?_
  refine bz_ac (show bz_cok bz_P l RX10 cX10_ball 3 62 26 mX6_lyingOn 2 6 from bz_cV' (own := RX10) (idx := 72) (ci := 5) (N := 4) (T := TX6) (n := 1) bp_X6_lyingOn bq_X6_lyingOn (by decide +kernel) (bz_tb 328 (by decide +kernel) (by decide +kernel)) (bz_tb 329 (by decide +kernel) (by decide +kernel)) (bz_tb 330 (by decide +kernel) (by decide +kernel)) rfl rfl (by decide) (by decide)) ?_
  refine bz_ac (show bz_ok RX10 cX10_ball 29 (bz_istore 3 1) from bz_o_istore_n (k := 3) (i := 3) (by decide +kernel) rfl) ?_
  refine bz_ac (show bz_ok RX10 cX10_ball 30 (bz_iload 2 1) from bz_o_iload_n (k := 2) (i := 2) (by decide +kernel) rfl) ?_
  refine bz_ac (show bz_ok RX10 cX10_ball 31 (bz_push (.int (-1)) 1) from bz_o_iconst (n := (-1)) (v := (-1)) (by decide +kernel) (by decide)) ?_
  refine bz_ac (show bz_ok RX10 cX10_ball 32 (bz_ic_eq 48) from bz_o_ic_eq (off := 16) (t := 48) (by decide +kernel) (by decide)) ?_
  refine bz_ac (show bz_ok RX10 cX10_ball 35 (bz_iload 3 1) from bz_o_iload_n (k := 3) (i := 3) (by decide +kernel) rfl) ?_
  refine bz_ac (show bz_ok RX10 cX10_ball 36 (bz_push (.int (-1)) 1) from bz_o_iconst (n := (-1)) (v := (-1)) (by decide +kernel) (by decide)) ?_
  refine bz_ac (show bz_ok RX10 cX10_ball 37 (bz_ic_eq 48) from bz_o_ic_eq (off := 11) (t := 48) (by decide +kernel) (by decide)) ?_
  refine bz_ac (show bz_ok RX10 cX10_ball 40 (bz_iload 3 1) from bz_o_iload_n (k := 3) (i := 3) (by decide +kernel) rfl) ?_
  refine bz_ac (show bz_ok RX10 cX10_ball 41 (bz_iload 1 1) from bz_o_iload_n (k := 1) (i := 1) (by decide +kernel) rfl) ?_
  refine bz_ac (show bz_ok RX10 cX10_ball 42 (bz_ic_eq 48) from bz_o_ic_eq (off := 6) (t := 48) (by decide +kernel) (by decide)) ?_
  refine bz_ac (show bz_ok RX10 cX10_ball 45 (bz_push (.int (-3)) 2) from bz_o_bipush (n := (-3)) (v := (-3)) (by decide +kernel) (by decide)) ?_
  refine bz_ac (show bz_rok cX10_ball (some .int) 47 1 from Or.inr (Or.inl ⟨rfl, rfl, by decide +kernel⟩)) ?_
  refine bz_ac (show bz_ok RX10 cX10_ball 48 (bz_aload 0 1) from bz_o_aload_n (k := 0) (i := 0) (by decide +kernel) rfl) ?_
  refine bz_ac (show bz_ok RX10 cX10_ball 49 (bz_getR 9 0) from bz_o_getR (ci := 9) (k := 0) (idx := 12) (C := RX10) (T := TX10) (N := 8) rfl bh_9 rfl rfl (bz_tb 284 (by decide +kernel) (by decide +kernel)) rfl (by decide +kernel)) ?_
  refine bz_ac (show bz_ok RX10 cX10_ball 52 (bz_iload 1 1) from bz_o_iload_n (k := 1) (i := 1) (by decide +kernel) rfl) ?_
  refine bz_ac (show bz_cok bz_P l RX10 cX10_ball 3 62 53 mX6_cellOrNone 2 6 from bz_cV' (own := RX10) (idx := 76) (ci := 5) (N := 4) (T := TX6) (n := 1) bp_X6_cellOrNone bq_X6_cellOrNone (by decide +kernel) (bz_tb 332 (by decide +kernel) (by decide +kernel)) (bz_tb 333 (by decide +kernel) (by decide +kernel)) (bz_tb 334 (by decide +kernel) (by decide +kernel)) rfl rfl (by decide) (by decide)) ?_
  refine bz_ac (show bz_ok RX10 cX10_ball 56 (bz_istore 4 2) from bz_o_istore (i := 4) (by decide +kernel)) ?_
  refine bz_ac (show bz_ok RX10 cX10_ball 58 (bz_aload 0 1) from bz_o_aload_n (k := 0) (i := 0) (by decide +kernel) rfl) ?_
  refine bz_ac (show bz_ok RX10 cX10_ball 59 (bz_getR 9 0) from bz_o_getR (ci := 9) (k := 0) (idx := 12) (C := RX10) (T := TX10) (N := 8) rfl bh_9 rfl rfl (bz_tb 284 (by decide +kernel) (by decide +kernel)) rfl (by decide +kernel)) ?_
  refine bz_ac (show bz_ok RX10 cX10_ball 62 (bz_getR 5 0) from bz_o_getR (ci := 5) (k := 0) (idx := 79) (C := RX6) (T := TX6) (N := 4) rfl bh_5 rfl rfl (bz_tb 77 (by decide +kernel) (by decide +kernel)) rfl (by decide +kernel)) ?_
  refine bz_ac (show bz_ok RX10 cX10_ball 65 (bz_iload 1 1) from bz_o_iload_n (k := 1) (i := 1) (by decide +kernel) rfl) ?_
  refine bz_ac (show bz_ok RX10 cX10_ball 66 (bz_iload 2 1) from bz_o_iload_n (k := 2) (i := 2) (by decide +kernel) rfl) ?_
  refine bz_ac (show bz_ok RX10 cX10_ball 67 (bz_iast) from bz_o_iast (by decide +kernel)) ?_
  refine bz_ac (show bz_ok RX10 cX10_ball 68 (bz_iload 4 2) from bz_o_iload (i := 4) (by decide +kernel)) ?_
  refine bz_ac (show bz_rok cX10_ball (some .int) 70 1 from Or.inr (Or.inl ⟨rfl, rfl, by decide +kernel⟩)) ?_
  exact bz_an
set_option maxRecDepth 100000 in
theorem bo_X10_score (l : Launch) : ∀ q ∈ bt_X10_score, bz_rw bz_P l bm_X10_score q := by
  refine bz_ac (show bz_ok RX10 cX10_score 0 (bz_iload 1 1) from bz_o_iload_n (k := 1) (i := 1) (by decide +kernel) rfl) ?_
  refine bz_ac (show bz_ok RX10 cX10_score 1 (bz_push (.int 0) 1) from bz_o_iconst (n := 0) (v := 0) (by decide +kernel) (by decide)) ?_
  refine bz_ac (show bz_ok RX10 cX10_score 2 (bz_push (.int 99) 2) from bz_o_bipush (n := 99) (v := 99) (by decide +kernel) (by decide)) ?_
  refine bz_ac (show bz_cok bz_P l RX10 cX10_score 1 22 4 mX10_isWithin 3 0 from bz_cS' (own := RX10) (idx := 83) (n := 3) bp_X10_isWithin bq_X10_isWithin (by decide +kernel) (bz_tb 322 (by decide +kernel) (by decide +kernel)) (bz_tb 323 (by decide +kernel) (by decide +kernel)) rfl (by decide) (by decide)) ?_
  refine bz_ac (show bz_ok RX10 cX10_score 7 (bz_if_eq 20) from bz_o_if_eq (off := 13) (t := 20) (by decide +kernel) (by decide)) ?_
  refine bz_ac (show bz_ok RX10 cX10_score 10 (bz_iload 2 1) from bz_o_iload_n (k := 2) (i := 2) (by decide +kernel) rfl) ?_
  refine bz_ac (show bz_ok RX10 cX10_score 11 (bz_push (.int 0) 1) from bz_o_iconst (n := 0) (v := 0) (by decide +kernel) (by decide)) ?_
  refine bz_ac (show bz_ok RX10 cX10_score 12 (bz_push (.int 99) 2) from bz_o_bipush (n := 99) (v := 99) (by decide +kernel) (by decide)) ?_
  refine bz_ac (show bz_cok bz_P l RX10 cX10_score 1 22 14 mX10_isWithin 3 0 from bz_cS' (own := RX10) (idx := 83) (n := 3) bp_X10_isWithin bq_X10_isWithin (by decide +kernel) (bz_tb 322 (by decide +kernel) (by decide +kernel)) (bz_tb 323 (by decide +kernel) (by decide +kernel)) rfl (by decide) (by decide)) ?_
  refine bz_ac (show bz_ok RX10 cX10_score 17 (bz_if_ne 23) from bz_o_if_ne (off := 6) (t := 23) (by decide +kernel) (by decide)) ?_
  refine bz_ac (show bz_ok RX10 cX10_score 20 (bz_push (.int (-2)) 2) from bz_o_bipush (n := (-2)) (v := (-2)) (by decide +kernel) (by decide)) ?_
  refine bz_ac (show bz_rok cX10_score (some .int) 22 1 from Or.inr (Or.inl ⟨rfl, rfl, by decide +kernel⟩)) ?_
  refine bz_ac (show bz_ok RX10 cX10_score 23 (bz_push (.int 100) 2) from bz_o_bipush (n := 100) (v := 100) (by decide +kernel) (by decide)) ?_
  refine bz_ac (show bz_ok RX10 cX10_score 25 (bz_aload 0 1) from bz_o_aload_n (k := 0) (i := 0) (by decide +kernel) rfl) ?_
  refine bz_ac (show bz_ok RX10 cX10_score 26 (bz_getR 9 0) from bz_o_getR (ci := 9) (k := 0) (idx := 12) (C := RX10) (T := TX10) (N := 8) rfl bh_9 rfl rfl (bz_tb 284 (by decide +kernel) (by decide +kernel)) rfl (by decide +kernel)) ?_
  refine bz_ac (show bz_ok RX10 cX10_score 29 (bz_getI 5 1) from bz_o_getI (ci := 5) (k := 1) (idx := 87) (C := RX6) (T := TX6) (N := 4) rfl bh_5 rfl rfl (bz_tb 80 (by decide +kernel) (by decide +kernel)) (Or.inl rfl) (by decide +kernel)) ?_
  refine bz_ac (show bz_ok RX10 cX10_score 32 (bz_imul) from bz_o_imul (by decide +kernel)) ?_
  refine bz_ac (show bz_ok RX10 cX10_score 33 (bz_aload 0 1) from bz_o_aload_n (k := 0) (i := 0) (by decide +kernel) rfl) ?_
  refine bz_ac (show bz_ok RX10 cX10_score 34 (bz_getR 9 0) from bz_o_getR (ci := 9) (k := 0) (idx := 12) (C := RX10) (T := TX10) (N := 8) rfl bh_9 rfl rfl (bz_tb 284 (by decide +kernel) (by decide +kernel)) rfl (by decide +kernel)) ?_
  refine bz_ac (show bz_ok RX10 cX10_score 37 (bz_getI 5 2) from bz_o_getI (ci := 5) (k := 2) (idx := 91) (C := RX6) (T := TX6) (N := 4) rfl bh_5 rfl rfl (bz_tb 84 (by decide +kernel) (by decide +kernel)) (Or.inl rfl) (by decide +kernel)) ?_
  refine bz_ac (show bz_ok RX10 cX10_score 40 (bz_iadd) from bz_o_iadd (by decide +kernel)) ?_
  refine bz_ac (show bz_ok RX10 cX10_score 41 (bz_istore 3 1) from bz_o_istore_n (k := 3) (i := 3) (by decide +kernel) rfl) ?_
  refine bz_ac (show bz_ok RX10 cX10_score 42 (bz_aload 0 1) from bz_o_aload_n (k := 0) (i := 0) (by decide +kernel) rfl) ?_
  refine bz_ac (show bz_ok RX10 cX10_score 43 (bz_getR 9 0) from bz_o_getR (ci := 9) (k := 0) (idx := 12) (C := RX10) (T := TX10) (N := 8) rfl bh_9 rfl rfl (bz_tb 284 (by decide +kernel) (by decide +kernel)) rfl (by decide +kernel)) ?_
  refine bz_ac (show bz_ok RX10 cX10_score 46 (bz_iload 1 1) from bz_o_iload_n (k := 1) (i := 1) (by decide +kernel) rfl) ?_
  refine bz_ac (show bz_ok RX10 cX10_score 47 (bz_putI 5 1) from bz_o_putI (ci := 5) (k := 1) (idx := 87) (C := RX6) (T := TX6) (N := 4) rfl bh_5 rfl rfl (bz_tb 80 (by decide +kernel) (by decide +kernel)) tyX6 tyX6_ok nmX6 rfl rfl rfl (by decide +kernel)) ?_
  refine bz_ac (show bz_ok RX10 cX10_score 50 (bz_aload 0 1) from bz_o_aload_n (k := 0) (i := 0) (by decide +kernel) rfl) ?_
  refine bz_ac (show bz_ok RX10 cX10_score 51 (bz_getR 9 0) from bz_o_getR (ci := 9) (k := 0) (idx := 12) (C := RX10) (T := TX10) (N := 8) rfl bh_9 rfl rfl (bz_tb 284 (by decide +kernel) (by decide +kernel)) rfl (by decide +kernel)) ?_
  refine bz_ac (show bz_ok RX10 cX10_score 54 (bz_iload 2 1) from bz_o_iload_n (k := 2) (i := 2) (by decide +kernel) rfl) ?_
  refine bz_ac (show bz_ok RX10 cX10_score 55 (bz_putI 5 2) from bz_o_putI (ci := 5) (k := 2) (idx := 91) (C := RX6) (T := TX6) (N := 4) rfl bh_5 rfl rfl (bz_tb 84 (by decide +kernel) (by decide +kernel)) tyX6 tyX6_ok nmX6 rfl rfl rfl (by decide +kernel)) ?_
  refine bz_ac (show bz_ok RX10 cX10_score 58 (bz_iload 3 1) from bz_o_iload_n (k := 3) (i := 3) (by decide +kernel) rfl) ?_
  refine bz_ac (show bz_rok cX10_score (some .int) 59 1 from Or.inr (Or.inl ⟨rfl, rfl, by decide +kernel⟩)) ?_
  exact bz_an
set_option maxRecDepth 100000 in
theorem bo_X10_say (l : Launch) : ∀ q ∈ bt_X10_say, bz_rw bz_P l bm_X10_say q := by
  refine bz_ac (show bz_ok RX10 cX10_say 0 (bz_iload 1 1) from bz_o_iload_n (k := 1) (i := 1) (by decide +kernel) rfl) ?_
  refine bz_ac (show bz_ok RX10 cX10_say 1 (bz_push (.int 33) 2) from bz_o_bipush (n := 33) (v := 33) (by decide +kernel) (by decide)) ?_
  refine bz_ac (show bz_ok RX10 cX10_say 3 (bz_push (.int 126) 2) from bz_o_bipush (n := 126) (v := 126) (by decide +kernel) (by decide)) ?_
  refine bz_ac (show bz_cok bz_P l RX10 cX10_say 1 22 5 mX10_isWithin 3 0 from bz_cS' (own := RX10) (idx := 83) (n := 3) bp_X10_isWithin bq_X10_isWithin (by decide +kernel) (bz_tb 322 (by decide +kernel) (by decide +kernel)) (bz_tb 323 (by decide +kernel) (by decide +kernel)) rfl (by decide) (by decide)) ?_
  refine bz_ac (show bz_ok RX10 cX10_say 8 (bz_if_ne 14) from bz_o_if_ne (off := 6) (t := 14) (by decide +kernel) (by decide)) ?_
  refine bz_ac (show bz_ok RX10 cX10_say 11 (bz_push (.int (-2)) 2) from bz_o_bipush (n := (-2)) (v := (-2)) (by decide +kernel) (by decide)) ?_
  refine bz_ac (show bz_rok cX10_say (some .int) 13 1 from Or.inr (Or.inl ⟨rfl, rfl, by decide +kernel⟩)) ?_
  refine bz_ac (show bz_ok RX10 cX10_say 14 (bz_aload 0 1) from bz_o_aload_n (k := 0) (i := 0) (by decide +kernel) rfl) ?_
  refine bz_ac (show bz_ok RX10 cX10_say 15 (bz_getR 9 2) from bz_o_getR (ci := 9) (k := 2) (idx := 26) (C := RX10) (T := TX10) (N := 8) rfl bh_9 rfl rfl (bz_tb 286 (by decide +kernel) (by decide +kernel)) rfl (by decide +kernel)) ?_
  refine bz_ac (show bz_ok RX10 cX10_say 18 (bz_iload 1 1) from bz_o_iload_n (k := 1) (i := 1) (by decide +kernel) rfl) ?_
  refine bz_ac (show bz_cok bz_P l RX10 cX10_say 1 22 19 mX3_add 2 3 from bz_cV' (own := RX10) (idx := 94) (ci := 2) (N := 2) (T := TX3) (n := 1) bp_X3_add bq_X3_add (by decide +kernel) (bz_tb 349 (by decide +kernel) (by decide +kernel)) (bz_tb 350 (by decide +kernel) (by decide +kernel)) (bz_tb 351 (by decide +kernel) (by decide +kernel)) rfl rfl (by decide) (by decide)) ?_
  refine bz_ac (show bz_ok RX10 cX10_say 22 (bz_if_eq 35) from bz_o_if_eq (off := 13) (t := 35) (by decide +kernel) (by decide)) ?_
  refine bz_ac (show bz_ok RX10 cX10_say 25 (bz_aload 0 1) from bz_o_aload_n (k := 0) (i := 0) (by decide +kernel) rfl) ?_
  refine bz_ac (show bz_ok RX10 cX10_say 26 (bz_getR 9 2) from bz_o_getR (ci := 9) (k := 2) (idx := 26) (C := RX10) (T := TX10) (N := 8) rfl bh_9 rfl rfl (bz_tb 286 (by decide +kernel) (by decide +kernel)) rfl (by decide +kernel)) ?_
  refine bz_ac (show bz_ok RX10 cX10_say 29 (bz_getI 2 1) from bz_o_getI (ci := 2) (k := 1) (idx := 97) (C := RX3) (T := TX3) (N := 2) rfl bh_2 rfl rfl (bz_tb 124 (by decide +kernel) (by decide +kernel)) (Or.inl rfl) (by decide +kernel)) ?_
  refine bz_ac (show bz_ok RX10 cX10_say 32 (bz_goto 37) from bz_o_goto (off := 5) (t := 37) (by decide +kernel) (by decide)) ?_
  refine bz_ac (show bz_ok RX10 cX10_say 35 (bz_push (.int (-4)) 2) from bz_o_bipush (n := (-4)) (v := (-4)) (by decide +kernel) (by decide)) ?_
  refine bz_ac (show bz_rok cX10_say (some .int) 37 1 from Or.inr (Or.inl ⟨rfl, rfl, by decide +kernel⟩)) ?_
  exact bz_an
set_option maxRecDepth 100000 in
theorem bo_X10_wipe (l : Launch) : ∀ q ∈ bt_X10_wipe, bz_rw bz_P l bm_X10_wipe q := by
  refine bz_ac (show bz_ok RX10 cX10_wipe 0 (bz_aload 0 1) from bz_o_aload_n (k := 0) (i := 0) (by decide +kernel) rfl) ?_
  refine bz_ac (show bz_ok RX10 cX10_wipe 1 (bz_getR 9 2) from bz_o_getR (ci := 9) (k := 2) (idx := 26) (C := RX10) (T := TX10) (N := 8) rfl bh_9 rfl rfl (bz_tb 286 (by decide +kernel) (by decide +kernel)) rfl (by decide +kernel)) ?_
  refine bz_ac (show bz_cok bz_P l RX10 cX10_wipe 1 21 4 mX3_empty 1 3 from bz_cV' (own := RX10) (idx := 100) (ci := 2) (N := 2) (T := TX3) (n := 0) bp_X3_empty bq_X3_empty (by decide +kernel) (bz_tb 357 (by decide +kernel) (by decide +kernel)) (bz_tb 358 (by decide +kernel) (by decide +kernel)) (bz_tb 359 (by decide +kernel) (by decide +kernel)) rfl rfl (by decide) (by decide)) ?_
  refine bz_ac (show bz_rok cX10_wipe (some .int) 7 1 from Or.inr (Or.inl ⟨rfl, rfl, by decide +kernel⟩)) ?_
  exact bz_an
set_option maxRecDepth 100000 in
theorem bo_X10_fault (l : Launch) : ∀ q ∈ bt_X10_fault, bz_rw bz_P l bm_X10_fault q := by
  refine bz_ac (show bz_ok RX10 cX10_fault 0 (bz_aload 0 1) from bz_o_aload_n (k := 0) (i := 0) (by decide +kernel) rfl) ?_
  refine bz_ac (show bz_ok RX10 cX10_fault 1 (bz_getR 9 2) from bz_o_getR (ci := 9) (k := 2) (idx := 26) (C := RX10) (T := TX10) (N := 8) rfl bh_9 rfl rfl (bz_tb 286 (by decide +kernel) (by decide +kernel)) rfl (by decide +kernel)) ?_
  refine bz_ac (show bz_cok bz_P l RX10 cX10_fault 4 86 4 mX3_firstFault 1 3 from bz_cV' (own := RX10) (idx := 104) (ci := 2) (N := 2) (T := TX3) (n := 0) bp_X3_firstFault bq_X3_firstFault (by decide +kernel) (bz_tb 365 (by decide +kernel) (by decide +kernel)) (bz_tb 366 (by decide +kernel) (by decide +kernel)) (bz_tb 367 (by decide +kernel) (by decide +kernel)) rfl rfl (by decide) (by decide)) ?_
  refine bz_ac (show bz_rok cX10_fault (some .int) 7 1 from Or.inr (Or.inl ⟨rfl, rfl, by decide +kernel⟩)) ?_
  exact bz_an
set_option maxRecDepth 100000 in
theorem bo_X10_tryText (l : Launch) : ∀ q ∈ bt_X10_tryText, bz_rw bz_P l bm_X10_tryText q := by
  refine bz_ac (show bz_ok RX10 cX10_tryText 0 (bz_aload 0 1) from bz_o_aload_n (k := 0) (i := 0) (by decide +kernel) rfl) ?_
  refine bz_ac (show bz_ok RX10 cX10_tryText 1 (bz_getR 9 2) from bz_o_getR (ci := 9) (k := 2) (idx := 26) (C := RX10) (T := TX10) (N := 8) rfl bh_9 rfl rfl (bz_tb 286 (by decide +kernel) (by decide +kernel)) rfl (by decide +kernel)) ?_
  refine bz_ac (show bz_cok bz_P l RX10 cX10_tryText 5 128 4 mX3_firstFault 1 3 from bz_cV' (own := RX10) (idx := 104) (ci := 2) (N := 2) (T := TX3) (n := 0) bp_X3_firstFault bq_X3_firstFault (by decide +kernel) (bz_tb 365 (by decide +kernel) (by decide +kernel)) (bz_tb 366 (by decide +kernel) (by decide +kernel)) (bz_tb 367 (by decide +kernel) (by decide +kernel)) rfl rfl (by decide) (by decide)) ?_
  refine bz_ac (show bz_ok RX10 cX10_tryText 7 (bz_push (.int (-6)) 2) from bz_o_bipush (n := (-6)) (v := (-6)) (by decide +kernel) (by decide)) ?_
  refine bz_ac (show bz_ok RX10 cX10_tryText 9 (bz_ic_eq 15) from bz_o_ic_eq (off := 6) (t := 15) (by decide +kernel) (by decide)) ?_
  refine bz_ac (show bz_ok RX10 cX10_tryText 12 (bz_push (.int (-5)) 2) from bz_o_bipush (n := (-5)) (v := (-5)) (by decide +kernel) (by decide)) ?_
  refine bz_ac (show bz_rok cX10_tryText (some .int) 14 1 from Or.inr (Or.inl ⟨rfl, rfl, by decide +kernel⟩)) ?_
  refine bz_ac (show bz_ok RX10 cX10_tryText 15 (bz_aload 0 1) from bz_o_aload_n (k := 0) (i := 0) (by decide +kernel) rfl) ?_
  refine bz_ac (show bz_ok RX10 cX10_tryText 16 (bz_getR 9 3) from bz_o_getR (ci := 9) (k := 3) (idx := 33) (C := RX10) (T := TX10) (N := 8) rfl bh_9 rfl rfl (bz_tb 287 (by decide +kernel) (by decide +kernel)) rfl (by decide +kernel)) ?_
  refine bz_ac (show bz_ok RX10 cX10_tryText 19 (bz_aload 0 1) from bz_o_aload_n (k := 0) (i := 0) (by decide +kernel) rfl) ?_
  refine bz_ac (show bz_ok RX10 cX10_tryText 20 (bz_getR 9 2) from bz_o_getR (ci := 9) (k := 2) (idx := 26) (C := RX10) (T := TX10) (N := 8) rfl bh_9 rfl rfl (bz_tb 286 (by decide +kernel) (by decide +kernel)) rfl (by decide +kernel)) ?_
  refine bz_ac (show bz_ok RX10 cX10_tryText 23 (bz_aload 0 1) from bz_o_aload_n (k := 0) (i := 0) (by decide +kernel) rfl) ?_
  refine bz_ac (show bz_ok RX10 cX10_tryText 24 (bz_getR 9 0) from bz_o_getR (ci := 9) (k := 0) (idx := 12) (C := RX10) (T := TX10) (N := 8) rfl bh_9 rfl rfl (bz_tb 284 (by decide +kernel) (by decide +kernel)) rfl (by decide +kernel)) ?_
  refine bz_ac (show bz_cok bz_P l RX10 cX10_tryText 5 128 27 mX8_runText 3 8 from bz_cV' (own := RX10) (idx := 141) (ci := 7) (N := 8) (T := TX8) (n := 2) bp_X8_runText bq_X8_runText (by decide +kernel) (bz_tb 387 (by decide +kernel) (by decide +kernel)) (bz_tb 388 (by decide +kernel) (by decide +kernel)) (bz_tb 389 (by decide +kernel) (by decide +kernel)) rfl rfl (by decide) (by decide)) ?_
  refine bz_ac (show bz_ok RX10 cX10_tryText 30 (bz_aload 0 1) from bz_o_aload_n (k := 0) (i := 0) (by decide +kernel) rfl) ?_
  refine bz_ac (show bz_ok RX10 cX10_tryText 31 (bz_getR 9 3) from bz_o_getR (ci := 9) (k := 3) (idx := 33) (C := RX10) (T := TX10) (N := 8) rfl bh_9 rfl rfl (bz_tb 287 (by decide +kernel) (by decide +kernel)) rfl (by decide +kernel)) ?_
  refine bz_ac (show bz_ok RX10 cX10_tryText 34 (bz_getI 7 3) from bz_o_getI (ci := 7) (k := 3) (idx := 110) (C := RX8) (T := TX8) (N := 8) rfl bh_7 rfl rfl (bz_tb 177 (by decide +kernel) (by decide +kernel)) (Or.inl rfl) (by decide +kernel)) ?_
  refine bz_ac (show bz_ok RX10 cX10_tryText 37 (bz_push (.int (-6)) 2) from bz_o_bipush (n := (-6)) (v := (-6)) (by decide +kernel) (by decide)) ?_
  refine bz_ac (show bz_ok RX10 cX10_tryText 39 (bz_ic_ne 46) from bz_o_ic_ne (off := 7) (t := 46) (by decide +kernel) (by decide)) ?_
  refine bz_ac (show bz_ok RX10 cX10_tryText 42 (bz_push (.int 0) 1) from bz_o_iconst (n := 0) (v := 0) (by decide +kernel) (by decide)) ?_
  refine bz_ac (show bz_ok RX10 cX10_tryText 43 (bz_goto 48) from bz_o_goto (off := 5) (t := 48) (by decide +kernel) (by decide)) ?_
  refine bz_ac (show bz_ok RX10 cX10_tryText 46 (bz_push (.int (-3)) 2) from bz_o_bipush (n := (-3)) (v := (-3)) (by decide +kernel) (by decide)) ?_
  refine bz_ac (show bz_rok cX10_tryText (some .int) 48 1 from Or.inr (Or.inl ⟨rfl, rfl, by decide +kernel⟩)) ?_
  exact bz_an
set_option maxRecDepth 100000 in
theorem bo_X10_judge (l : Launch) : ∀ q ∈ bt_X10_judge, bz_rw bz_P l bm_X10_judge q := by
  refine bz_ac (show bz_ok RX10 cX10_judge 0 (bz_iload 1 1) from bz_o_iload_n (k := 1) (i := 1) (by decide +kernel) rfl) ?_
  refine bz_ac (show bz_ok RX10 cX10_judge 1 (bz_push (.int 0) 1) from bz_o_iconst (n := 0) (v := 0) (by decide +kernel) (by decide)) ?_
  refine bz_ac (show bz_ok RX10 cX10_judge 2 (bz_push (.int 2) 1) from bz_o_iconst (n := 2) (v := 2) (by decide +kernel) (by decide)) ?_
  refine bz_ac (show bz_cok bz_P l RX10 cX10_judge 6 148 3 mX10_isWithin 3 0 from bz_cS' (own := RX10) (idx := 83) (n := 3) bp_X10_isWithin bq_X10_isWithin (by decide +kernel) (bz_tb 322 (by decide +kernel) (by decide +kernel)) (bz_tb 323 (by decide +kernel) (by decide +kernel)) rfl (by decide) (by decide)) ?_
  refine bz_ac (show bz_ok RX10 cX10_judge 6 (bz_if_ne 12) from bz_o_if_ne (off := 6) (t := 12) (by decide +kernel) (by decide)) ?_
  refine bz_ac (show bz_ok RX10 cX10_judge 9 (bz_push (.int (-2)) 2) from bz_o_bipush (n := (-2)) (v := (-2)) (by decide +kernel) (by decide)) ?_
  refine bz_ac (show bz_rok cX10_judge (some .int) 11 1 from Or.inr (Or.inl ⟨rfl, rfl, by decide +kernel⟩)) ?_
  refine bz_ac (show bz_ok RX10 cX10_judge 12 (bz_aload 0 1) from bz_o_aload_n (k := 0) (i := 0) (by decide +kernel) rfl) ?_
  refine bz_ac (show bz_cok bz_P l RX10 cX10_judge 6 148 13 mX10_tryText 1 10 from bz_cV' (own := RX10) (idx := 107) (ci := 9) (N := 8) (T := TX10) (n := 0) bp_X10_tryText bq_X10_tryText (by decide +kernel) (bz_tb 383 (by decide +kernel) (by decide +kernel)) (bz_tb 385 (by decide +kernel) (by decide +kernel)) (bz_tb 0 (by decide +kernel) (by decide +kernel)) rfl rfl (by decide) (by decide)) ?_
  refine bz_ac (show bz_ok RX10 cX10_judge 16 (bz_istore 2 1) from bz_o_istore_n (k := 2) (i := 2) (by decide +kernel) rfl) ?_
  refine bz_ac (show bz_ok RX10 cX10_judge 17 (bz_iload 2 1) from bz_o_iload_n (k := 2) (i := 2) (by decide +kernel) rfl) ?_
  refine bz_ac (show bz_ok RX10 cX10_judge 18 (bz_push (.int (-5)) 2) from bz_o_bipush (n := (-5)) (v := (-5)) (by decide +kernel) (by decide)) ?_
  refine bz_ac (show bz_ok RX10 cX10_judge 20 (bz_ic_eq 34) from bz_o_ic_eq (off := 14) (t := 34) (by decide +kernel) (by decide)) ?_
  refine bz_ac (show bz_ok RX10 cX10_judge 23 (bz_iload 2 1) from bz_o_iload_n (k := 2) (i := 2) (by decide +kernel) rfl) ?_
  refine bz_ac (show bz_ok RX10 cX10_judge 24 (bz_push (.int (-3)) 2) from bz_o_bipush (n := (-3)) (v := (-3)) (by decide +kernel) (by decide)) ?_
  refine bz_ac (show bz_ok RX10 cX10_judge 26 (bz_ic_ne 36) from bz_o_ic_ne (off := 10) (t := 36) (by decide +kernel) (by decide)) ?_
  refine bz_ac (show bz_ok RX10 cX10_judge 29 (bz_iload 1 1) from bz_o_iload_n (k := 1) (i := 1) (by decide +kernel) rfl) ?_
  refine bz_ac (show bz_ok RX10 cX10_judge 30 (bz_push (.int 2) 1) from bz_o_iconst (n := 2) (v := 2) (by decide +kernel) (by decide)) ?_
  refine bz_ac (show bz_ok RX10 cX10_judge 31 (bz_ic_ne 36) from bz_o_ic_ne (off := 5) (t := 36) (by decide +kernel) (by decide)) ?_
  refine bz_ac (show bz_ok RX10 cX10_judge 34 (bz_iload 2 1) from bz_o_iload_n (k := 2) (i := 2) (by decide +kernel) rfl) ?_
  refine bz_ac (show bz_rok cX10_judge (some .int) 35 1 from Or.inr (Or.inl ⟨rfl, rfl, by decide +kernel⟩)) ?_
  refine bz_ac (show bz_ok RX10 cX10_judge 36 (bz_iload 1 1) from bz_o_iload_n (k := 1) (i := 1) (by decide +kernel) rfl) ?_
  refine bz_ac (show bz_ok RX10 cX10_judge 37 (bz_switch [(0, 64), (1, 72)] 80) from bz_o_lookup (df := 43) (ps := #[(0, 27), (1, 35)]) (len := 27) (cs := [(0, 64), (1, 72)]) (d := 80) (by decide +kernel) (by decide) (by decide +kernel) (by decide)) ?_
  refine bz_ac (show bz_ok RX10 cX10_judge 64 (bz_aload 0 1) from bz_o_aload_n (k := 0) (i := 0) (by decide +kernel) rfl) ?_
  refine bz_ac (show bz_ok RX10 cX10_judge 65 (bz_getR 9 3) from bz_o_getR (ci := 9) (k := 3) (idx := 33) (C := RX10) (T := TX10) (N := 8) rfl bh_9 rfl rfl (bz_tb 287 (by decide +kernel) (by decide +kernel)) rfl (by decide +kernel)) ?_
  refine bz_ac (show bz_ok RX10 cX10_judge 68 (bz_getI 7 3) from bz_o_getI (ci := 7) (k := 3) (idx := 110) (C := RX8) (T := TX8) (N := 8) rfl bh_7 rfl rfl (bz_tb 177 (by decide +kernel) (by decide +kernel)) (Or.inl rfl) (by decide +kernel)) ?_
  refine bz_ac (show bz_rok cX10_judge (some .int) 71 1 from Or.inr (Or.inl ⟨rfl, rfl, by decide +kernel⟩)) ?_
  refine bz_ac (show bz_ok RX10 cX10_judge 72 (bz_aload 0 1) from bz_o_aload_n (k := 0) (i := 0) (by decide +kernel) rfl) ?_
  refine bz_ac (show bz_ok RX10 cX10_judge 73 (bz_getR 9 3) from bz_o_getR (ci := 9) (k := 3) (idx := 33) (C := RX10) (T := TX10) (N := 8) rfl bh_9 rfl rfl (bz_tb 287 (by decide +kernel) (by decide +kernel)) rfl (by decide +kernel)) ?_
  refine bz_ac (show bz_ok RX10 cX10_judge 76 (bz_getI 7 4) from bz_o_getI (ci := 7) (k := 4) (idx := 113) (C := RX8) (T := TX8) (N := 8) rfl bh_7 rfl rfl (bz_tb 179 (by decide +kernel) (by decide +kernel)) (Or.inl rfl) (by decide +kernel)) ?_
  refine bz_ac (show bz_rok cX10_judge (some .int) 79 1 from Or.inr (Or.inl ⟨rfl, rfl, by decide +kernel⟩)) ?_
  refine bz_ac (show bz_ok RX10 cX10_judge 80 (bz_aload 0 1) from bz_o_aload_n (k := 0) (i := 0) (by decide +kernel) rfl) ?_
  refine bz_ac (show bz_ok RX10 cX10_judge 81 (bz_getR 9 3) from bz_o_getR (ci := 9) (k := 3) (idx := 33) (C := RX10) (T := TX10) (N := 8) rfl bh_9 rfl rfl (bz_tb 287 (by decide +kernel) (by decide +kernel)) rfl (by decide +kernel)) ?_
  refine bz_ac (show bz_ok RX10 cX10_judge 84 (bz_getI 7 5) from bz_o_getI (ci := 7) (k := 5) (idx := 116) (C := RX8) (T := TX8) (N := 8) rfl bh_7 rfl rfl (bz_tb 181 (by decide +kernel) (by decide +kernel)) (Or.inl rfl) (by decide +kernel)) ?_
  refine bz_ac (show bz_rok cX10_judge (some .int) 87 1 from Or.inr (Or.inl ⟨rfl, rfl, by decide +kernel⟩)) ?_
  exact bz_an
set_option maxRecDepth 100000 in
theorem bo_X10_behind (l : Launch) : ∀ q ∈ bt_X10_behind, bz_rw bz_P l bm_X10_behind q := by
  refine bz_ac (show bz_ok RX10 cX10_behind 0 (bz_iload 1 1) from bz_o_iload_n (k := 1) (i := 1) (by decide +kernel) rfl) ?_
  refine bz_ac (show bz_cok bz_P l RX10 cX10_behind 6 148 1 mX10_isBall 1 0 from bz_cS' (own := RX10) (idx := 65) (n := 1) bp_X10_isBall bq_X10_isBall (by decide +kernel) (bz_tb 313 (by decide +kernel) (by decide +kernel)) (bz_tb 314 (by decide +kernel) (by decide +kernel)) rfl (by decide) (by decide)) ?_
  refine bz_ac (show bz_ok RX10 cX10_behind 4 (bz_if_ne 9) from bz_o_if_ne (off := 5) (t := 9) (by decide +kernel) (by decide)) ?_
  refine bz_ac (show bz_ok RX10 cX10_behind 7 (bz_push (.int (-1)) 1) from bz_o_iconst (n := (-1)) (v := (-1)) (by decide +kernel) (by decide)) ?_
  refine bz_ac (show bz_rok cX10_behind (some .int) 8 1 from Or.inr (Or.inl ⟨rfl, rfl, by decide +kernel⟩)) ?_
  refine bz_ac (show bz_ok RX10 cX10_behind 9 (bz_aload 0 1) from bz_o_aload_n (k := 0) (i := 0) (by decide +kernel) rfl) ?_
  refine bz_ac (show bz_cok bz_P l RX10 cX10_behind 6 148 10 mX10_tryText 1 10 from bz_cV' (own := RX10) (idx := 107) (ci := 9) (N := 8) (T := TX10) (n := 0) bp_X10_tryText bq_X10_tryText (by decide +kernel) (bz_tb 383 (by decide +kernel) (by decide +kernel)) (bz_tb 385 (by decide +kernel) (by decide +kernel)) (bz_tb 0 (by decide +kernel) (by decide +kernel)) rfl rfl (by decide) (by decide)) ?_
  refine bz_ac (show bz_ok RX10 cX10_behind 13 (bz_istore 2 1) from bz_o_istore_n (k := 2) (i := 2) (by decide +kernel) rfl) ?_
  refine bz_ac (show bz_ok RX10 cX10_behind 14 (bz_iload 2 1) from bz_o_iload_n (k := 2) (i := 2) (by decide +kernel) rfl) ?_
  refine bz_ac (show bz_ok RX10 cX10_behind 15 (bz_if_eq 22) from bz_o_if_eq (off := 7) (t := 22) (by decide +kernel) (by decide)) ?_
  refine bz_ac (show bz_ok RX10 cX10_behind 18 (bz_iload 2 1) from bz_o_iload_n (k := 2) (i := 2) (by decide +kernel) rfl) ?_
  refine bz_ac (show bz_ok RX10 cX10_behind 19 (bz_goto 33) from bz_o_goto (off := 14) (t := 33) (by decide +kernel) (by decide)) ?_
  refine bz_ac (show bz_ok RX10 cX10_behind 22 (bz_aload 0 1) from bz_o_aload_n (k := 0) (i := 0) (by decide +kernel) rfl) ?_
  refine bz_ac (show bz_ok RX10 cX10_behind 23 (bz_getR 9 3) from bz_o_getR (ci := 9) (k := 3) (idx := 33) (C := RX10) (T := TX10) (N := 8) rfl bh_9 rfl rfl (bz_tb 287 (by decide +kernel) (by decide +kernel)) rfl (by decide +kernel)) ?_
  refine bz_ac (show bz_ok RX10 cX10_behind 26 (bz_getR 7 0) from bz_o_getR (ci := 7) (k := 0) (idx := 119) (C := RX8) (T := TX8) (N := 8) rfl bh_7 rfl rfl (bz_tb 172 (by decide +kernel) (by decide +kernel)) rfl (by decide +kernel)) ?_
  refine bz_ac (show bz_ok RX10 cX10_behind 29 (bz_iload 1 1) from bz_o_iload_n (k := 1) (i := 1) (by decide +kernel) rfl) ?_
  refine bz_ac (show bz_cok bz_P l RX10 cX10_behind 6 148 30 mX6_cellOrNone 2 6 from bz_cV' (own := RX10) (idx := 76) (ci := 5) (N := 4) (T := TX6) (n := 1) bp_X6_cellOrNone bq_X6_cellOrNone (by decide +kernel) (bz_tb 332 (by decide +kernel) (by decide +kernel)) (bz_tb 333 (by decide +kernel) (by decide +kernel)) (bz_tb 334 (by decide +kernel) (by decide +kernel)) rfl rfl (by decide) (by decide)) ?_
  refine bz_ac (show bz_rok cX10_behind (some .int) 33 1 from Or.inr (Or.inl ⟨rfl, rfl, by decide +kernel⟩)) ?_
  exact bz_an
set_option maxRecDepth 100000 in
theorem bo_X10_table (l : Launch) : ∀ q ∈ bt_X10_table, bz_rw bz_P l bm_X10_table q := by
  refine bz_ac (show bz_ok RX10 cX10_table 0 (bz_iload 1 1) from bz_o_iload_n (k := 1) (i := 1) (by decide +kernel) rfl) ?_
  refine bz_ac (show bz_ok RX10 cX10_table 1 (bz_push (.int 0) 1) from bz_o_iconst (n := 0) (v := 0) (by decide +kernel) (by decide)) ?_
  refine bz_ac (show bz_ok RX10 cX10_table 2 (bz_push (.int 3) 1) from bz_o_iconst (n := 3) (v := 3) (by decide +kernel) (by decide)) ?_
  refine bz_ac (show bz_cok bz_P l RX10 cX10_table 6 148 3 mX10_isWithin 3 0 from bz_cS' (own := RX10) (idx := 83) (n := 3) bp_X10_isWithin bq_X10_isWithin (by decide +kernel) (bz_tb 322 (by decide +kernel) (by decide +kernel)) (bz_tb 323 (by decide +kernel) (by decide +kernel)) rfl (by decide) (by decide)) ?_
  refine bz_ac (show bz_ok RX10 cX10_table 6 (bz_if_ne 12) from bz_o_if_ne (off := 6) (t := 12) (by decide +kernel) (by decide)) ?_
  refine bz_ac (show bz_ok RX10 cX10_table 9 (bz_push (.int (-2)) 2) from bz_o_bipush (n := (-2)) (v := (-2)) (by decide +kernel) (by decide)) ?_
  refine bz_ac (show bz_rok cX10_table (some .int) 11 1 from Or.inr (Or.inl ⟨rfl, rfl, by decide +kernel⟩)) ?_
  refine bz_ac (show bz_ok RX10 cX10_table 12 (bz_aload 0 1) from bz_o_aload_n (k := 0) (i := 0) (by decide +kernel) rfl) ?_
  refine bz_ac (show bz_cok bz_P l RX10 cX10_table 6 148 13 mX10_tryText 1 10 from bz_cV' (own := RX10) (idx := 107) (ci := 9) (N := 8) (T := TX10) (n := 0) bp_X10_tryText bq_X10_tryText (by decide +kernel) (bz_tb 383 (by decide +kernel) (by decide +kernel)) (bz_tb 385 (by decide +kernel) (by decide +kernel)) (bz_tb 0 (by decide +kernel) (by decide +kernel)) rfl rfl (by decide) (by decide)) ?_
  refine bz_ac (show bz_ok RX10 cX10_table 16 (bz_istore 2 1) from bz_o_istore_n (k := 2) (i := 2) (by decide +kernel) rfl) ?_
  refine bz_ac (show bz_ok RX10 cX10_table 17 (bz_iload 2 1) from bz_o_iload_n (k := 2) (i := 2) (by decide +kernel) rfl) ?_
  refine bz_ac (show bz_ok RX10 cX10_table 18 (bz_if_eq 23) from bz_o_if_eq (off := 5) (t := 23) (by decide +kernel) (by decide)) ?_
  refine bz_ac (show bz_ok RX10 cX10_table 21 (bz_iload 2 1) from bz_o_iload_n (k := 2) (i := 2) (by decide +kernel) rfl) ?_
  refine bz_ac (show bz_rok cX10_table (some .int) 22 1 from Or.inr (Or.inl ⟨rfl, rfl, by decide +kernel⟩)) ?_
  refine bz_ac (show bz_ok RX10 cX10_table 23 (bz_iload 1 1) from bz_o_iload_n (k := 1) (i := 1) (by decide +kernel) rfl) ?_
  refine bz_ac (show bz_ok RX10 cX10_table 24 (bz_switch (bz_mk 0 [52, 63, 74]) 85) from bz_o_table (df := 61) (offs := #[28, 39, 50]) (len := 28) (lo := 0) (hi := 2) (ts := [52, 63, 74]) (d := 85) (by decide +kernel) (by decide) (by decide +kernel) (by decide)) ?_
  refine bz_ac (show bz_ok RX10 cX10_table 52 (bz_aload 0 1) from bz_o_aload_n (k := 0) (i := 0) (by decide +kernel) rfl) ?_
  refine bz_ac (show bz_ok RX10 cX10_table 53 (bz_getR 9 3) from bz_o_getR (ci := 9) (k := 3) (idx := 33) (C := RX10) (T := TX10) (N := 8) rfl bh_9 rfl rfl (bz_tb 287 (by decide +kernel) (by decide +kernel)) rfl (by decide +kernel)) ?_
  refine bz_ac (show bz_ok RX10 cX10_table 56 (bz_getR 7 0) from bz_o_getR (ci := 7) (k := 0) (idx := 119) (C := RX8) (T := TX8) (N := 8) rfl bh_7 rfl rfl (bz_tb 172 (by decide +kernel) (by decide +kernel)) rfl (by decide +kernel)) ?_
  refine bz_ac (show bz_ok RX10 cX10_table 59 (bz_getI 5 1) from bz_o_getI (ci := 5) (k := 1) (idx := 87) (C := RX6) (T := TX6) (N := 4) rfl bh_5 rfl rfl (bz_tb 80 (by decide +kernel) (by decide +kernel)) (Or.inl rfl) (by decide +kernel)) ?_
  refine bz_ac (show bz_rok cX10_table (some .int) 62 1 from Or.inr (Or.inl ⟨rfl, rfl, by decide +kernel⟩)) ?_
  refine bz_ac (show bz_ok RX10 cX10_table 63 (bz_aload 0 1) from bz_o_aload_n (k := 0) (i := 0) (by decide +kernel) rfl) ?_
  refine bz_ac (show bz_ok RX10 cX10_table 64 (bz_getR 9 3) from bz_o_getR (ci := 9) (k := 3) (idx := 33) (C := RX10) (T := TX10) (N := 8) rfl bh_9 rfl rfl (bz_tb 287 (by decide +kernel) (by decide +kernel)) rfl (by decide +kernel)) ?_
  refine bz_ac (show bz_ok RX10 cX10_table 67 (bz_getR 7 0) from bz_o_getR (ci := 7) (k := 0) (idx := 119) (C := RX8) (T := TX8) (N := 8) rfl bh_7 rfl rfl (bz_tb 172 (by decide +kernel) (by decide +kernel)) rfl (by decide +kernel)) ?_
  refine bz_ac (show bz_ok RX10 cX10_table 70 (bz_getI 5 2) from bz_o_getI (ci := 5) (k := 2) (idx := 91) (C := RX6) (T := TX6) (N := 4) rfl bh_5 rfl rfl (bz_tb 84 (by decide +kernel) (by decide +kernel)) (Or.inl rfl) (by decide +kernel)) ?_
  refine bz_ac (show bz_rok cX10_table (some .int) 73 1 from Or.inr (Or.inl ⟨rfl, rfl, by decide +kernel⟩)) ?_
  refine bz_ac (show bz_ok RX10 cX10_table 74 (bz_aload 0 1) from bz_o_aload_n (k := 0) (i := 0) (by decide +kernel) rfl) ?_
  refine bz_ac (show bz_ok RX10 cX10_table 75 (bz_getR 9 3) from bz_o_getR (ci := 9) (k := 3) (idx := 33) (C := RX10) (T := TX10) (N := 8) rfl bh_9 rfl rfl (bz_tb 287 (by decide +kernel) (by decide +kernel)) rfl (by decide +kernel)) ?_
  refine bz_ac (show bz_ok RX10 cX10_table 78 (bz_getR 7 0) from bz_o_getR (ci := 7) (k := 0) (idx := 119) (C := RX8) (T := TX8) (N := 8) rfl bh_7 rfl rfl (bz_tb 172 (by decide +kernel) (by decide +kernel)) rfl (by decide +kernel)) ?_
  refine bz_ac (show bz_cok bz_P l RX10 cX10_table 6 148 81 mX6_howManyDown 1 6 from bz_cV' (own := RX10) (idx := 122) (ci := 5) (N := 4) (T := TX6) (n := 0) bp_X6_howManyDown bq_X6_howManyDown (by decide +kernel) (bz_tb 476 (by decide +kernel) (by decide +kernel)) (bz_tb 477 (by decide +kernel) (by decide +kernel)) (bz_tb 478 (by decide +kernel) (by decide +kernel)) rfl rfl (by decide) (by decide)) ?_
  refine bz_ac (show bz_rok cX10_table (some .int) 84 1 from Or.inr (Or.inl ⟨rfl, rfl, by decide +kernel⟩)) ?_
  refine bz_ac (show bz_ok RX10 cX10_table 85 (bz_aload 0 1) from bz_o_aload_n (k := 0) (i := 0) (by decide +kernel) rfl) ?_
  refine bz_ac (show bz_ok RX10 cX10_table 86 (bz_getR 9 3) from bz_o_getR (ci := 9) (k := 3) (idx := 33) (C := RX10) (T := TX10) (N := 8) rfl bh_9 rfl rfl (bz_tb 287 (by decide +kernel) (by decide +kernel)) rfl (by decide +kernel)) ?_
  refine bz_ac (show bz_ok RX10 cX10_table 89 (bz_getR 7 0) from bz_o_getR (ci := 7) (k := 0) (idx := 119) (C := RX8) (T := TX8) (N := 8) rfl bh_7 rfl rfl (bz_tb 172 (by decide +kernel) (by decide +kernel)) rfl (by decide +kernel)) ?_
  refine bz_ac (show bz_ok RX10 cX10_table 92 (bz_getI 5 3) from bz_o_getI (ci := 5) (k := 3) (idx := 125) (C := RX6) (T := TX6) (N := 4) rfl bh_5 rfl rfl (bz_tb 87 (by decide +kernel) (by decide +kernel)) (Or.inl rfl) (by decide +kernel)) ?_
  refine bz_ac (show bz_rok cX10_table (some .int) 95 1 from Or.inr (Or.inl ⟨rfl, rfl, by decide +kernel⟩)) ?_
  exact bz_an
set_option maxRecDepth 100000 in
theorem bo_X10_candour (l : Launch) : ∀ q ∈ bt_X10_candour, bz_rw bz_P l bm_X10_candour q := by
  refine bz_ac (show bz_ok RX10 cX10_candour 0 (bz_iload 1 1) from bz_o_iload_n (k := 1) (i := 1) (by decide +kernel) rfl) ?_
  refine bz_ac (show bz_ok RX10 cX10_candour 1 (bz_push (.int 0) 1) from bz_o_iconst (n := 0) (v := 0) (by decide +kernel) (by decide)) ?_
  refine bz_ac (show bz_ok RX10 cX10_candour 2 (bz_push (.int 1) 1) from bz_o_iconst (n := 1) (v := 1) (by decide +kernel) (by decide)) ?_
  refine bz_ac (show bz_cok bz_P l RX10 cX10_candour 6 148 3 mX10_isWithin 3 0 from bz_cS' (own := RX10) (idx := 83) (n := 3) bp_X10_isWithin bq_X10_isWithin (by decide +kernel) (bz_tb 322 (by decide +kernel) (by decide +kernel)) (bz_tb 323 (by decide +kernel) (by decide +kernel)) rfl (by decide) (by decide)) ?_
  refine bz_ac (show bz_ok RX10 cX10_candour 6 (bz_if_ne 12) from bz_o_if_ne (off := 6) (t := 12) (by decide +kernel) (by decide)) ?_
  refine bz_ac (show bz_ok RX10 cX10_candour 9 (bz_push (.int (-2)) 2) from bz_o_bipush (n := (-2)) (v := (-2)) (by decide +kernel) (by decide)) ?_
  refine bz_ac (show bz_rok cX10_candour (some .int) 11 1 from Or.inr (Or.inl ⟨rfl, rfl, by decide +kernel⟩)) ?_
  refine bz_ac (show bz_ok RX10 cX10_candour 12 (bz_aload 0 1) from bz_o_aload_n (k := 0) (i := 0) (by decide +kernel) rfl) ?_
  refine bz_ac (show bz_cok bz_P l RX10 cX10_candour 6 148 13 mX10_tryText 1 10 from bz_cV' (own := RX10) (idx := 107) (ci := 9) (N := 8) (T := TX10) (n := 0) bp_X10_tryText bq_X10_tryText (by decide +kernel) (bz_tb 383 (by decide +kernel) (by decide +kernel)) (bz_tb 385 (by decide +kernel) (by decide +kernel)) (bz_tb 0 (by decide +kernel) (by decide +kernel)) rfl rfl (by decide) (by decide)) ?_
  refine bz_ac (show bz_ok RX10 cX10_candour 16 (bz_istore 2 1) from bz_o_istore_n (k := 2) (i := 2) (by decide +kernel) rfl) ?_
  refine bz_ac (show bz_ok RX10 cX10_candour 17 (bz_iload 2 1) from bz_o_iload_n (k := 2) (i := 2) (by decide +kernel) rfl) ?_
  refine bz_ac (show bz_ok RX10 cX10_candour 18 (bz_if_eq 23) from bz_o_if_eq (off := 5) (t := 23) (by decide +kernel) (by decide)) ?_
  refine bz_ac (show bz_ok RX10 cX10_candour 21 (bz_iload 2 1) from bz_o_iload_n (k := 2) (i := 2) (by decide +kernel) rfl) ?_
  refine bz_ac (show bz_rok cX10_candour (some .int) 22 1 from Or.inr (Or.inl ⟨rfl, rfl, by decide +kernel⟩)) ?_
  refine bz_ac (show bz_ok RX10 cX10_candour 23 (bz_iload 1 1) from bz_o_iload_n (k := 1) (i := 1) (by decide +kernel) rfl) ?_
  refine bz_ac (show bz_ok RX10 cX10_candour 24 (bz_if_ne 37) from bz_o_if_ne (off := 13) (t := 37) (by decide +kernel) (by decide)) ?_
  refine bz_ac (show bz_ok RX10 cX10_candour 27 (bz_aload 0 1) from bz_o_aload_n (k := 0) (i := 0) (by decide +kernel) rfl) ?_
  refine bz_ac (show bz_ok RX10 cX10_candour 28 (bz_getR 9 3) from bz_o_getR (ci := 9) (k := 3) (idx := 33) (C := RX10) (T := TX10) (N := 8) rfl bh_9 rfl rfl (bz_tb 287 (by decide +kernel) (by decide +kernel)) rfl (by decide +kernel)) ?_
  refine bz_ac (show bz_ok RX10 cX10_candour 31 (bz_getI 7 7) from bz_o_getI (ci := 7) (k := 7) (idx := 128) (C := RX8) (T := TX8) (N := 8) rfl bh_7 rfl rfl (bz_tb 185 (by decide +kernel) (by decide +kernel)) (Or.inl rfl) (by decide +kernel)) ?_
  refine bz_ac (show bz_ok RX10 cX10_candour 34 (bz_goto 44) from bz_o_goto (off := 10) (t := 44) (by decide +kernel) (by decide)) ?_
  refine bz_ac (show bz_ok RX10 cX10_candour 37 (bz_aload 0 1) from bz_o_aload_n (k := 0) (i := 0) (by decide +kernel) rfl) ?_
  refine bz_ac (show bz_ok RX10 cX10_candour 38 (bz_getR 9 3) from bz_o_getR (ci := 9) (k := 3) (idx := 33) (C := RX10) (T := TX10) (N := 8) rfl bh_9 rfl rfl (bz_tb 287 (by decide +kernel) (by decide +kernel)) rfl (by decide +kernel)) ?_
  refine bz_ac (show bz_ok RX10 cX10_candour 41 (bz_getI 7 6) from bz_o_getI (ci := 7) (k := 6) (idx := 131) (C := RX8) (T := TX8) (N := 8) rfl bh_7 rfl rfl (bz_tb 183 (by decide +kernel) (by decide +kernel)) (Or.inl rfl) (by decide +kernel)) ?_
  refine bz_ac (show bz_rok cX10_candour (some .int) 44 1 from Or.inr (Or.inl ⟨rfl, rfl, by decide +kernel⟩)) ?_
  exact bz_an
set_option maxRecDepth 100000 in
theorem bo_X10_done (l : Launch) : ∀ q ∈ bt_X10_done, bz_rw bz_P l bm_X10_done q := by
  refine bz_ac (show bz_ok RX10 cX10_done 0 (bz_aload 0 1) from bz_o_aload_n (k := 0) (i := 0) (by decide +kernel) rfl) ?_
  refine bz_ac (show bz_cok bz_P l RX10 cX10_done 6 148 1 mX10_tryText 1 10 from bz_cV' (own := RX10) (idx := 107) (ci := 9) (N := 8) (T := TX10) (n := 0) bp_X10_tryText bq_X10_tryText (by decide +kernel) (bz_tb 383 (by decide +kernel) (by decide +kernel)) (bz_tb 385 (by decide +kernel) (by decide +kernel)) (bz_tb 0 (by decide +kernel) (by decide +kernel)) rfl rfl (by decide) (by decide)) ?_
  refine bz_ac (show bz_ok RX10 cX10_done 4 (bz_istore 1 1) from bz_o_istore_n (k := 1) (i := 1) (by decide +kernel) rfl) ?_
  refine bz_ac (show bz_ok RX10 cX10_done 5 (bz_iload 1 1) from bz_o_iload_n (k := 1) (i := 1) (by decide +kernel) rfl) ?_
  refine bz_ac (show bz_ok RX10 cX10_done 6 (bz_if_eq 11) from bz_o_if_eq (off := 5) (t := 11) (by decide +kernel) (by decide)) ?_
  refine bz_ac (show bz_ok RX10 cX10_done 9 (bz_iload 1 1) from bz_o_iload_n (k := 1) (i := 1) (by decide +kernel) rfl) ?_
  refine bz_ac (show bz_rok cX10_done (some .int) 10 1 from Or.inr (Or.inl ⟨rfl, rfl, by decide +kernel⟩)) ?_
  refine bz_ac (show bz_ok RX10 cX10_done 11 (bz_aload 0 1) from bz_o_aload_n (k := 0) (i := 0) (by decide +kernel) rfl) ?_
  refine bz_ac (show bz_ok RX10 cX10_done 12 (bz_getR 9 0) from bz_o_getR (ci := 9) (k := 0) (idx := 12) (C := RX10) (T := TX10) (N := 8) rfl bh_9 rfl rfl (bz_tb 284 (by decide +kernel) (by decide +kernel)) rfl (by decide +kernel)) ?_
  refine bz_ac (show bz_ok RX10 cX10_done 15 (bz_aload 0 1) from bz_o_aload_n (k := 0) (i := 0) (by decide +kernel) rfl) ?_
  refine bz_ac (show bz_ok RX10 cX10_done 16 (bz_getR 9 3) from bz_o_getR (ci := 9) (k := 3) (idx := 33) (C := RX10) (T := TX10) (N := 8) rfl bh_9 rfl rfl (bz_tb 287 (by decide +kernel) (by decide +kernel)) rfl (by decide +kernel)) ?_
  refine bz_ac (show bz_ok RX10 cX10_done 19 (bz_getR 7 0) from bz_o_getR (ci := 7) (k := 0) (idx := 119) (C := RX8) (T := TX8) (N := 8) rfl bh_7 rfl rfl (bz_tb 172 (by decide +kernel) (by decide +kernel)) rfl (by decide +kernel)) ?_
  refine bz_ac (show bz_cok bz_P l RX10 cX10_done 6 148 22 mX6_copy 2 6 from bz_cV' (own := RX10) (idx := 134) (ci := 5) (N := 4) (T := TX6) (n := 1) bp_X6_copy bq_X6_copy (by decide +kernel) (bz_tb 488 (by decide +kernel) (by decide +kernel)) (bz_tb 396 (by decide +kernel) (by decide +kernel)) (bz_tb 397 (by decide +kernel) (by decide +kernel)) rfl rfl (by decide) (by decide)) ?_
  refine bz_ac (show bz_ok RX10 cX10_done 25 (bz_aload 0 1) from bz_o_aload_n (k := 0) (i := 0) (by decide +kernel) rfl) ?_
  refine bz_ac (show bz_ok RX10 cX10_done 26 (bz_getR 9 2) from bz_o_getR (ci := 9) (k := 2) (idx := 26) (C := RX10) (T := TX10) (N := 8) rfl bh_9 rfl rfl (bz_tb 286 (by decide +kernel) (by decide +kernel)) rfl (by decide +kernel)) ?_
  refine bz_ac (show bz_cok bz_P l RX10 cX10_done 6 148 29 mX3_empty 1 3 from bz_cV' (own := RX10) (idx := 100) (ci := 2) (N := 2) (T := TX3) (n := 0) bp_X3_empty bq_X3_empty (by decide +kernel) (bz_tb 357 (by decide +kernel) (by decide +kernel)) (bz_tb 358 (by decide +kernel) (by decide +kernel)) (bz_tb 359 (by decide +kernel) (by decide +kernel)) rfl rfl (by decide) (by decide)) ?_
  refine bz_ac (show bz_ok RX10 cX10_done 32 (bz_pop1) from bz_o_pop (by decide +kernel)) ?_
  refine bz_ac (show bz_ok RX10 cX10_done 33 (bz_aload 0 1) from bz_o_aload_n (k := 0) (i := 0) (by decide +kernel) rfl) ?_
  refine bz_ac (show bz_ok RX10 cX10_done 34 (bz_getR 9 3) from bz_o_getR (ci := 9) (k := 3) (idx := 33) (C := RX10) (T := TX10) (N := 8) rfl bh_9 rfl rfl (bz_tb 287 (by decide +kernel) (by decide +kernel)) rfl (by decide +kernel)) ?_
  refine bz_ac (show bz_ok RX10 cX10_done 37 (bz_getI 7 2) from bz_o_getI (ci := 7) (k := 2) (idx := 138) (C := RX8) (T := TX8) (N := 8) rfl bh_7 rfl rfl (bz_tb 175 (by decide +kernel) (by decide +kernel)) (Or.inl rfl) (by decide +kernel)) ?_
  refine bz_ac (show bz_rok cX10_done (some .int) 40 1 from Or.inr (Or.inl ⟨rfl, rfl, by decide +kernel⟩)) ?_
  exact bz_an
set_option maxRecDepth 100000 in
theorem bo_X10_hint (l : Launch) : ∀ q ∈ bt_X10_hint, bz_rw bz_P l bm_X10_hint q := by
  refine bz_ac (show bz_ok RX10 cX10_hint 0 (bz_iload 1 1) from bz_o_iload_n (k := 1) (i := 1) (by decide +kernel) rfl) ?_
  refine bz_ac (show bz_cok bz_P l RX10 cX10_hint 3 80 1 mX10_isBall 1 0 from bz_cS' (own := RX10) (idx := 65) (n := 1) bp_X10_isBall bq_X10_isBall (by decide +kernel) (bz_tb 313 (by decide +kernel) (by decide +kernel)) (bz_tb 314 (by decide +kernel) (by decide +kernel)) rfl (by decide) (by decide)) ?_
  refine bz_ac (show bz_ok RX10 cX10_hint 4 (bz_if_eq 19) from bz_o_if_eq (off := 15) (t := 19) (by decide +kernel) (by decide)) ?_
  refine bz_ac (show bz_ok RX10 cX10_hint 7 (bz_iload 2 1) from bz_o_iload_n (k := 2) (i := 2) (by decide +kernel) rfl) ?_
  refine bz_ac (show bz_cok bz_P l RX10 cX10_hint 3 80 8 mX10_isBall 1 0 from bz_cS' (own := RX10) (idx := 65) (n := 1) bp_X10_isBall bq_X10_isBall (by decide +kernel) (bz_tb 313 (by decide +kernel) (by decide +kernel)) (bz_tb 314 (by decide +kernel) (by decide +kernel)) rfl (by decide) (by decide)) ?_
  refine bz_ac (show bz_ok RX10 cX10_hint 11 (bz_if_eq 19) from bz_o_if_eq (off := 8) (t := 19) (by decide +kernel) (by decide)) ?_
  refine bz_ac (show bz_ok RX10 cX10_hint 14 (bz_iload 1 1) from bz_o_iload_n (k := 1) (i := 1) (by decide +kernel) rfl) ?_
  refine bz_ac (show bz_ok RX10 cX10_hint 15 (bz_iload 2 1) from bz_o_iload_n (k := 2) (i := 2) (by decide +kernel) rfl) ?_
  refine bz_ac (show bz_ok RX10 cX10_hint 16 (bz_ic_ne 21) from bz_o_ic_ne (off := 5) (t := 21) (by decide +kernel) (by decide)) ?_
  refine bz_ac (show bz_ok RX10 cX10_hint 19 (bz_push (.int (-1)) 1) from bz_o_iconst (n := (-1)) (v := (-1)) (by decide +kernel) (by decide)) ?_
  refine bz_ac (show bz_rok cX10_hint (some .int) 20 1 from Or.inr (Or.inl ⟨rfl, rfl, by decide +kernel⟩)) ?_
  refine bz_ac (show bz_ok RX10 cX10_hint 21 (bz_iload 3 1) from bz_o_iload_n (k := 3) (i := 3) (by decide +kernel) rfl) ?_
  refine bz_ac (show bz_ok RX10 cX10_hint 22 (bz_push (.int 0) 1) from bz_o_iconst (n := 0) (v := 0) (by decide +kernel) (by decide)) ?_
  refine bz_ac (show bz_ok RX10 cX10_hint 23 (bz_push (.int 4) 1) from bz_o_iconst (n := 4) (v := 4) (by decide +kernel) (by decide)) ?_
  refine bz_ac (show bz_cok bz_P l RX10 cX10_hint 3 80 24 mX10_isWithin 3 0 from bz_cS' (own := RX10) (idx := 83) (n := 3) bp_X10_isWithin bq_X10_isWithin (by decide +kernel) (bz_tb 322 (by decide +kernel) (by decide +kernel)) (bz_tb 323 (by decide +kernel) (by decide +kernel)) rfl (by decide) (by decide)) ?_
  refine bz_ac (show bz_ok RX10 cX10_hint 27 (bz_if_eq 40) from bz_o_if_eq (off := 13) (t := 40) (by decide +kernel) (by decide)) ?_
  refine bz_ac (show bz_ok RX10 cX10_hint 30 (bz_iload 4 2) from bz_o_iload (i := 4) (by decide +kernel)) ?_
  refine bz_ac (show bz_ok RX10 cX10_hint 32 (bz_push (.int 0) 1) from bz_o_iconst (n := 0) (v := 0) (by decide +kernel) (by decide)) ?_
  refine bz_ac (show bz_ok RX10 cX10_hint 33 (bz_push (.int 1) 1) from bz_o_iconst (n := 1) (v := 1) (by decide +kernel) (by decide)) ?_
  refine bz_ac (show bz_cok bz_P l RX10 cX10_hint 3 80 34 mX10_isWithin 3 0 from bz_cS' (own := RX10) (idx := 83) (n := 3) bp_X10_isWithin bq_X10_isWithin (by decide +kernel) (bz_tb 322 (by decide +kernel) (by decide +kernel)) (bz_tb 323 (by decide +kernel) (by decide +kernel)) rfl (by decide) (by decide)) ?_
  refine bz_ac (show bz_ok RX10 cX10_hint 37 (bz_if_ne 43) from bz_o_if_ne (off := 6) (t := 43) (by decide +kernel) (by decide)) ?_
  refine bz_ac (show bz_ok RX10 cX10_hint 40 (bz_push (.int (-2)) 2) from bz_o_bipush (n := (-2)) (v := (-2)) (by decide +kernel) (by decide)) ?_
  refine bz_ac (show bz_rok cX10_hint (some .int) 42 1 from Or.inr (Or.inl ⟨rfl, rfl, by decide +kernel⟩)) ?_
  refine bz_ac (show bz_ok RX10 cX10_hint 43 (bz_aload 0 1) from bz_o_aload_n (k := 0) (i := 0) (by decide +kernel) rfl) ?_
  refine bz_ac (show bz_ok RX10 cX10_hint 44 (bz_getR 9 0) from bz_o_getR (ci := 9) (k := 0) (idx := 12) (C := RX10) (T := TX10) (N := 8) rfl bh_9 rfl rfl (bz_tb 284 (by decide +kernel) (by decide +kernel)) rfl (by decide +kernel)) ?_
  refine bz_ac (show bz_ok RX10 cX10_hint 47 (bz_iload 1 1) from bz_o_iload_n (k := 1) (i := 1) (by decide +kernel) rfl) ?_
  refine bz_ac (show bz_cok bz_P l RX10 cX10_hint 3 80 48 mX6_isDown 2 6 from bz_cV' (own := RX10) (idx := 145) (ci := 5) (N := 4) (T := TX6) (n := 1) bp_X6_isDown bq_X6_isDown (by decide +kernel) (bz_tb 493 (by decide +kernel) (by decide +kernel)) (bz_tb 337 (by decide +kernel) (by decide +kernel)) (bz_tb 338 (by decide +kernel) (by decide +kernel)) rfl rfl (by decide) (by decide)) ?_
  refine bz_ac (show bz_ok RX10 cX10_hint 51 (bz_if_ne 65) from bz_o_if_ne (off := 14) (t := 65) (by decide +kernel) (by decide)) ?_
  refine bz_ac (show bz_ok RX10 cX10_hint 54 (bz_aload 0 1) from bz_o_aload_n (k := 0) (i := 0) (by decide +kernel) rfl) ?_
  refine bz_ac (show bz_ok RX10 cX10_hint 55 (bz_getR 9 0) from bz_o_getR (ci := 9) (k := 0) (idx := 12) (C := RX10) (T := TX10) (N := 8) rfl bh_9 rfl rfl (bz_tb 284 (by decide +kernel) (by decide +kernel)) rfl (by decide +kernel)) ?_
  refine bz_ac (show bz_ok RX10 cX10_hint 58 (bz_iload 2 1) from bz_o_iload_n (k := 2) (i := 2) (by decide +kernel) rfl) ?_
  refine bz_ac (show bz_cok bz_P l RX10 cX10_hint 3 80 59 mX6_isDown 2 6 from bz_cV' (own := RX10) (idx := 145) (ci := 5) (N := 4) (T := TX6) (n := 1) bp_X6_isDown bq_X6_isDown (by decide +kernel) (bz_tb 493 (by decide +kernel) (by decide +kernel)) (bz_tb 337 (by decide +kernel) (by decide +kernel)) (bz_tb 338 (by decide +kernel) (by decide +kernel)) rfl rfl (by decide) (by decide)) ?_
  refine bz_ac (show bz_ok RX10 cX10_hint 62 (bz_if_eq 68) from bz_o_if_eq (off := 6) (t := 68) (by decide +kernel) (by decide)) ?_
  refine bz_ac (show bz_ok RX10 cX10_hint 65 (bz_push (.int (-6)) 2) from bz_o_bipush (n := (-6)) (v := (-6)) (by decide +kernel) (by decide)) ?_
  refine bz_ac (show bz_rok cX10_hint (some .int) 67 1 from Or.inr (Or.inl ⟨rfl, rfl, by decide +kernel⟩)) ?_
  refine bz_ac (show bz_ok RX10 cX10_hint 68 (bz_push (.int (-6)) 2) from bz_o_bipush (n := (-6)) (v := (-6)) (by decide +kernel) (by decide)) ?_
  refine bz_ac (show bz_ok RX10 cX10_hint 70 (bz_istore 5 2) from bz_o_istore (i := 5) (by decide +kernel)) ?_
  refine bz_ac (show bz_ok RX10 cX10_hint 72 (bz_push (.int (-6)) 2) from bz_o_bipush (n := (-6)) (v := (-6)) (by decide +kernel) (by decide)) ?_
  refine bz_ac (show bz_ok RX10 cX10_hint 74 (bz_istore 6 2) from bz_o_istore (i := 6) (by decide +kernel)) ?_
  refine bz_ac (show bz_ok RX10 cX10_hint 76 (bz_push (.int 0) 1) from bz_o_iconst (n := 0) (v := 0) (by decide +kernel) (by decide)) ?_
  refine bz_ac (show bz_ok RX10 cX10_hint 77 (bz_istore 7 2) from bz_o_istore (i := 7) (by decide +kernel)) ?_
  refine bz_ac (show bz_ok RX10 cX10_hint 79 (bz_iload 7 2) from bz_o_iload (i := 7) (by decide +kernel)) ?_
  refine bz_ac (show bz_ok RX10 cX10_hint 81 (bz_push (.int 8) 2) from bz_o_bipush (n := 8) (v := 8) (by decide +kernel) (by decide)) ?_
  refine bz_ac (show bz_ok RX10 cX10_hint 83 (bz_ic_ge 139) from bz_o_ic_ge (off := 56) (t := 139) (by decide +kernel) (by decide)) ?_
  refine bz_ac (show bz_ok RX10 cX10_hint 86 (bz_aload 0 1) from bz_o_aload_n (k := 0) (i := 0) (by decide +kernel) rfl) ?_
  refine bz_ac (show bz_ok RX10 cX10_hint 87 (bz_getR 9 3) from bz_o_getR (ci := 9) (k := 3) (idx := 33) (C := RX10) (T := TX10) (N := 8) rfl bh_9 rfl rfl (bz_tb 287 (by decide +kernel) (by decide +kernel)) rfl (by decide +kernel)) ?_
  refine bz_ac (show bz_ok RX10 cX10_hint 90 (bz_aload 0 1) from bz_o_aload_n (k := 0) (i := 0) (by decide +kernel) rfl) ?_
  refine bz_ac (show bz_ok RX10 cX10_hint 91 (bz_getR 9 0) from bz_o_getR (ci := 9) (k := 0) (idx := 12) (C := RX10) (T := TX10) (N := 8) rfl bh_9 rfl rfl (bz_tb 284 (by decide +kernel) (by decide +kernel)) rfl (by decide +kernel)) ?_
  refine bz_ac (show bz_ok RX10 cX10_hint 94 (bz_iload 1 1) from bz_o_iload_n (k := 1) (i := 1) (by decide +kernel) rfl) ?_
  refine bz_ac (show bz_ok RX10 cX10_hint 95 (bz_iload 7 2) from bz_o_iload (i := 7) (by decide +kernel)) ?_
  refine bz_ac (show bz_ok RX10 cX10_hint 97 (bz_iload 2 1) from bz_o_iload_n (k := 2) (i := 2) (by decide +kernel) rfl) ?_
  refine bz_ac (show bz_ok RX10 cX10_hint 98 (bz_iload 3 1) from bz_o_iload_n (k := 3) (i := 3) (by decide +kernel) rfl) ?_
  refine bz_ac (show bz_cok bz_P l RX10 cX10_hint 3 80 99 mX8_forceToTouch 6 8 from bz_cV' (own := RX10) (idx := 148) (ci := 7) (N := 8) (T := TX8) (n := 5) bp_X8_forceToTouch bq_X8_forceToTouch (by decide +kernel) (bz_tb 494 (by decide +kernel) (by decide +kernel)) (bz_tb 495 (by decide +kernel) (by decide +kernel)) (bz_tb 496 (by decide +kernel) (by decide +kernel)) rfl rfl (by decide) (by decide)) ?_
  refine bz_ac (show bz_ok RX10 cX10_hint 102 (bz_istore 8 2) from bz_o_istore (i := 8) (by decide +kernel)) ?_
  refine bz_ac (show bz_ok RX10 cX10_hint 104 (bz_iload 8 2) from bz_o_iload (i := 8) (by decide +kernel)) ?_
  refine bz_ac (show bz_ok RX10 cX10_hint 106 (bz_push (.int (-6)) 2) from bz_o_bipush (n := (-6)) (v := (-6)) (by decide +kernel) (by decide)) ?_
  refine bz_ac (show bz_ok RX10 cX10_hint 108 (bz_ic_eq 133) from bz_o_ic_eq (off := 25) (t := 133) (by decide +kernel) (by decide)) ?_
  refine bz_ac (show bz_ok RX10 cX10_hint 111 (bz_iload 5 2) from bz_o_iload (i := 5) (by decide +kernel)) ?_
  refine bz_ac (show bz_ok RX10 cX10_hint 113 (bz_push (.int (-6)) 2) from bz_o_bipush (n := (-6)) (v := (-6)) (by decide +kernel) (by decide)) ?_
  refine bz_ac (show bz_ok RX10 cX10_hint 115 (bz_ic_eq 125) from bz_o_ic_eq (off := 10) (t := 125) (by decide +kernel) (by decide)) ?_
  refine bz_ac (show bz_ok RX10 cX10_hint 118 (bz_iload 8 2) from bz_o_iload (i := 8) (by decide +kernel)) ?_
  refine bz_ac (show bz_ok RX10 cX10_hint 120 (bz_iload 5 2) from bz_o_iload (i := 5) (by decide +kernel)) ?_
  refine bz_ac (show bz_ok RX10 cX10_hint 122 (bz_ic_ge 133) from bz_o_ic_ge (off := 11) (t := 133) (by decide +kernel) (by decide)) ?_
  refine bz_ac (show bz_ok RX10 cX10_hint 125 (bz_iload 8 2) from bz_o_iload (i := 8) (by decide +kernel)) ?_
  refine bz_ac (show bz_ok RX10 cX10_hint 127 (bz_istore 5 2) from bz_o_istore (i := 5) (by decide +kernel)) ?_
  refine bz_ac (show bz_ok RX10 cX10_hint 129 (bz_iload 7 2) from bz_o_iload (i := 7) (by decide +kernel)) ?_
  refine bz_ac (show bz_ok RX10 cX10_hint 131 (bz_istore 6 2) from bz_o_istore (i := 6) (by decide +kernel)) ?_
  refine bz_ac (show bz_ok RX10 cX10_hint 133 (bz_iinc 7 1) from bz_o_iinc (i := 7) (n := 1) (v := 1) (by decide +kernel) (by decide)) ?_
  refine bz_ac (show bz_ok RX10 cX10_hint 136 (bz_goto 79) from bz_o_goto (off := (-57)) (t := 79) (by decide +kernel) (by decide)) ?_
  refine bz_ac (show bz_ok RX10 cX10_hint 139 (bz_iload 4 2) from bz_o_iload (i := 4) (by decide +kernel)) ?_
  refine bz_ac (show bz_ok RX10 cX10_hint 141 (bz_if_ne 149) from bz_o_if_ne (off := 8) (t := 149) (by decide +kernel) (by decide)) ?_
  refine bz_ac (show bz_ok RX10 cX10_hint 144 (bz_iload 5 2) from bz_o_iload (i := 5) (by decide +kernel)) ?_
  refine bz_ac (show bz_ok RX10 cX10_hint 146 (bz_goto 151) from bz_o_goto (off := 5) (t := 151) (by decide +kernel) (by decide)) ?_
  refine bz_ac (show bz_ok RX10 cX10_hint 149 (bz_iload 6 2) from bz_o_iload (i := 6) (by decide +kernel)) ?_
  refine bz_ac (show bz_rok cX10_hint (some .int) 151 1 from Or.inr (Or.inl ⟨rfl, rfl, by decide +kernel⟩)) ?_
  exact bz_an
set_option maxRecDepth 100000 in
theorem bo_J13_bitCount_95d88 (l : Launch) : ∀ q ∈ bt_J13_bitCount_95d88, bz_rw bz_P l bm_J13_bitCount_95d88 q := by
  refine bz_ac (show bz_ok RJ13 cJ13_bitCount_95d88 0 (bz_lload 0 1) from bz_o_lload_n (k := 0) (i := 0) (by decide +kernel) rfl) ?_
  refine bz_ac (show bz_ok RJ13 cJ13_bitCount_95d88 1 (bz_lload 0 1) from bz_o_lload_n (k := 0) (i := 0) (by decide +kernel) rfl) ?_
  refine bz_ac (show bz_ok RJ13 cJ13_bitCount_95d88 2 (bz_push (.int 1) 1) from bz_o_iconst (n := 1) (v := 1) (by decide +kernel) (by decide)) ?_
  refine bz_ac (show bz_ok RJ13 cJ13_bitCount_95d88 3 (bz_lushr) from bz_o_lushr (by decide +kernel)) ?_
  refine bz_ac (show bz_ok RJ13 cJ13_bitCount_95d88 4 (bz_push (.long 6148914691236517205) 3) from bz_o_ldc2 (own := RJ13) (i := 314) (v := 6148914691236517205) (by decide +kernel) (bz_tb 522 (by decide +kernel) (by decide +kernel))) ?_
  refine bz_ac (show bz_ok RJ13 cJ13_bitCount_95d88 7 (bz_land) from bz_o_land (by decide +kernel)) ?_
  refine bz_ac (show bz_ok RJ13 cJ13_bitCount_95d88 8 (bz_lsub) from bz_o_lsub (by decide +kernel)) ?_
  refine bz_ac (show bz_ok RJ13 cJ13_bitCount_95d88 9 (bz_lstore 0 1) from bz_o_lstore_n (k := 0) (i := 0) (by decide +kernel) rfl) ?_
  refine bz_ac (show bz_ok RJ13 cJ13_bitCount_95d88 10 (bz_lload 0 1) from bz_o_lload_n (k := 0) (i := 0) (by decide +kernel) rfl) ?_
  refine bz_ac (show bz_ok RJ13 cJ13_bitCount_95d88 11 (bz_push (.long 3689348814741910323) 3) from bz_o_ldc2 (own := RJ13) (i := 316) (v := 3689348814741910323) (by decide +kernel) (bz_tb 523 (by decide +kernel) (by decide +kernel))) ?_
  refine bz_ac (show bz_ok RJ13 cJ13_bitCount_95d88 14 (bz_land) from bz_o_land (by decide +kernel)) ?_
  refine bz_ac (show bz_ok RJ13 cJ13_bitCount_95d88 15 (bz_lload 0 1) from bz_o_lload_n (k := 0) (i := 0) (by decide +kernel) rfl) ?_
  refine bz_ac (show bz_ok RJ13 cJ13_bitCount_95d88 16 (bz_push (.int 2) 1) from bz_o_iconst (n := 2) (v := 2) (by decide +kernel) (by decide)) ?_
  refine bz_ac (show bz_ok RJ13 cJ13_bitCount_95d88 17 (bz_lushr) from bz_o_lushr (by decide +kernel)) ?_
  refine bz_ac (show bz_ok RJ13 cJ13_bitCount_95d88 18 (bz_push (.long 3689348814741910323) 3) from bz_o_ldc2 (own := RJ13) (i := 316) (v := 3689348814741910323) (by decide +kernel) (bz_tb 523 (by decide +kernel) (by decide +kernel))) ?_
  refine bz_ac (show bz_ok RJ13 cJ13_bitCount_95d88 21 (bz_land) from bz_o_land (by decide +kernel)) ?_
  refine bz_ac (show bz_ok RJ13 cJ13_bitCount_95d88 22 (bz_ladd) from bz_o_ladd (by decide +kernel)) ?_
  refine bz_ac (show bz_ok RJ13 cJ13_bitCount_95d88 23 (bz_lstore 0 1) from bz_o_lstore_n (k := 0) (i := 0) (by decide +kernel) rfl) ?_
  refine bz_ac (show bz_ok RJ13 cJ13_bitCount_95d88 24 (bz_lload 0 1) from bz_o_lload_n (k := 0) (i := 0) (by decide +kernel) rfl) ?_
  refine bz_ac (show bz_ok RJ13 cJ13_bitCount_95d88 25 (bz_lload 0 1) from bz_o_lload_n (k := 0) (i := 0) (by decide +kernel) rfl) ?_
  refine bz_ac (show bz_ok RJ13 cJ13_bitCount_95d88 26 (bz_push (.int 4) 1) from bz_o_iconst (n := 4) (v := 4) (by decide +kernel) (by decide)) ?_
  refine bz_ac (show bz_ok RJ13 cJ13_bitCount_95d88 27 (bz_lushr) from bz_o_lushr (by decide +kernel)) ?_
  refine bz_ac (show bz_ok RJ13 cJ13_bitCount_95d88 28 (bz_ladd) from bz_o_ladd (by decide +kernel)) ?_
  refine bz_ac (show bz_ok RJ13 cJ13_bitCount_95d88 29 (bz_push (.long 1085102592571150095) 3) from bz_o_ldc2 (own := RJ13) (i := 318) (v := 1085102592571150095) (by decide +kernel) (bz_tb 524 (by decide +kernel) (by decide +kernel))) ?_
  refine bz_ac (show bz_ok RJ13 cJ13_bitCount_95d88 32 (bz_land) from bz_o_land (by decide +kernel)) ?_
  refine bz_ac (show bz_ok RJ13 cJ13_bitCount_95d88 33 (bz_lstore 0 1) from bz_o_lstore_n (k := 0) (i := 0) (by decide +kernel) rfl) ?_
  refine bz_ac (show bz_ok RJ13 cJ13_bitCount_95d88 34 (bz_lload 0 1) from bz_o_lload_n (k := 0) (i := 0) (by decide +kernel) rfl) ?_
  refine bz_ac (show bz_ok RJ13 cJ13_bitCount_95d88 35 (bz_lload 0 1) from bz_o_lload_n (k := 0) (i := 0) (by decide +kernel) rfl) ?_
  refine bz_ac (show bz_ok RJ13 cJ13_bitCount_95d88 36 (bz_push (.int 8) 2) from bz_o_bipush (n := 8) (v := 8) (by decide +kernel) (by decide)) ?_
  refine bz_ac (show bz_ok RJ13 cJ13_bitCount_95d88 38 (bz_lushr) from bz_o_lushr (by decide +kernel)) ?_
  refine bz_ac (show bz_ok RJ13 cJ13_bitCount_95d88 39 (bz_ladd) from bz_o_ladd (by decide +kernel)) ?_
  refine bz_ac (show bz_ok RJ13 cJ13_bitCount_95d88 40 (bz_lstore 0 1) from bz_o_lstore_n (k := 0) (i := 0) (by decide +kernel) rfl) ?_
  refine bz_ac (show bz_ok RJ13 cJ13_bitCount_95d88 41 (bz_lload 0 1) from bz_o_lload_n (k := 0) (i := 0) (by decide +kernel) rfl) ?_
  refine bz_ac (show bz_ok RJ13 cJ13_bitCount_95d88 42 (bz_lload 0 1) from bz_o_lload_n (k := 0) (i := 0) (by decide +kernel) rfl) ?_
  refine bz_ac (show bz_ok RJ13 cJ13_bitCount_95d88 43 (bz_push (.int 16) 2) from bz_o_bipush (n := 16) (v := 16) (by decide +kernel) (by decide)) ?_
  refine bz_ac (show bz_ok RJ13 cJ13_bitCount_95d88 45 (bz_lushr) from bz_o_lushr (by decide +kernel)) ?_
  refine bz_ac (show bz_ok RJ13 cJ13_bitCount_95d88 46 (bz_ladd) from bz_o_ladd (by decide +kernel)) ?_
  refine bz_ac (show bz_ok RJ13 cJ13_bitCount_95d88 47 (bz_lstore 0 1) from bz_o_lstore_n (k := 0) (i := 0) (by decide +kernel) rfl) ?_
  refine bz_ac (show bz_ok RJ13 cJ13_bitCount_95d88 48 (bz_lload 0 1) from bz_o_lload_n (k := 0) (i := 0) (by decide +kernel) rfl) ?_
  refine bz_ac (show bz_ok RJ13 cJ13_bitCount_95d88 49 (bz_lload 0 1) from bz_o_lload_n (k := 0) (i := 0) (by decide +kernel) rfl) ?_
  refine bz_ac (show bz_ok RJ13 cJ13_bitCount_95d88 50 (bz_push (.int 32) 2) from bz_o_bipush (n := 32) (v := 32) (by decide +kernel) (by decide)) ?_
  refine bz_ac (show bz_ok RJ13 cJ13_bitCount_95d88 52 (bz_lushr) from bz_o_lushr (by decide +kernel)) ?_
  refine bz_ac (show bz_ok RJ13 cJ13_bitCount_95d88 53 (bz_ladd) from bz_o_ladd (by decide +kernel)) ?_
  refine bz_ac (show bz_ok RJ13 cJ13_bitCount_95d88 54 (bz_lstore 0 1) from bz_o_lstore_n (k := 0) (i := 0) (by decide +kernel) rfl) ?_
  refine bz_ac (show bz_ok RJ13 cJ13_bitCount_95d88 55 (bz_lload 0 1) from bz_o_lload_n (k := 0) (i := 0) (by decide +kernel) rfl) ?_
  refine bz_ac (show bz_ok RJ13 cJ13_bitCount_95d88 56 (bz_l2i) from bz_o_l2i (by decide +kernel)) ?_
  refine bz_ac (show bz_ok RJ13 cJ13_bitCount_95d88 57 (bz_push (.int 127) 2) from bz_o_bipush (n := 127) (v := 127) (by decide +kernel) (by decide)) ?_
  refine bz_ac (show bz_ok RJ13 cJ13_bitCount_95d88 59 (bz_iand) from bz_o_iand (by decide +kernel)) ?_
  refine bz_ac (show bz_rok cJ13_bitCount_95d88 (some .int) 60 1 from Or.inr (Or.inl ⟨rfl, rfl, by decide +kernel⟩)) ?_
  exact bz_an
set_option maxRecDepth 100000 in
theorem bo_X10_alone (l : Launch) : ∀ q ∈ bt_X10_alone, bz_rw bz_P l bm_X10_alone q := by
  refine bz_ac (show bz_ok RX10 cX10_alone 0 (bz_iload 1 1) from bz_o_iload_n (k := 1) (i := 1) (by decide +kernel) rfl) ?_
  refine bz_ac (show bz_cok bz_P l RX10 cX10_alone 3 62 1 mX10_isPlace 1 0 from bz_cS' (own := RX10) (idx := 69) (n := 1) bp_X10_isPlace bq_X10_isPlace (by decide +kernel) (bz_tb 316 (by decide +kernel) (by decide +kernel)) (bz_tb 317 (by decide +kernel) (by decide +kernel)) rfl (by decide) (by decide)) ?_
  refine bz_ac (show bz_ok RX10 cX10_alone 4 (bz_if_ne 9) from bz_o_if_ne (off := 5) (t := 9) (by decide +kernel) (by decide)) ?_
  refine bz_ac (show bz_ok RX10 cX10_alone 7 (bz_push (.int (-1)) 1) from bz_o_iconst (n := (-1)) (v := (-1)) (by decide +kernel) (by decide)) ?_
  refine bz_ac (show bz_rok cX10_alone (some .int) 8 1 from Or.inr (Or.inl ⟨rfl, rfl, by decide +kernel⟩)) ?_
  refine bz_ac (show bz_ok RX10 cX10_alone 9 (bz_iload 2 1) from bz_o_iload_n (k := 2) (i := 2) (by decide +kernel) rfl) ?_
  refine bz_ac (show bz_ok RX10 cX10_alone 10 (bz_push (.int 0) 1) from bz_o_iconst (n := 0) (v := 0) (by decide +kernel) (by decide)) ?_
  refine bz_ac (show bz_ok RX10 cX10_alone 11 (bz_push (.int 7) 2) from bz_o_bipush (n := 7) (v := 7) (by decide +kernel) (by decide)) ?_
  refine bz_ac (show bz_cok bz_P l RX10 cX10_alone 3 62 13 mX10_isWithin 3 0 from bz_cS' (own := RX10) (idx := 83) (n := 3) bp_X10_isWithin bq_X10_isWithin (by decide +kernel) (bz_tb 322 (by decide +kernel) (by decide +kernel)) (bz_tb 323 (by decide +kernel) (by decide +kernel)) rfl (by decide) (by decide)) ?_
  refine bz_ac (show bz_ok RX10 cX10_alone 16 (bz_if_eq 39) from bz_o_if_eq (off := 23) (t := 39) (by decide +kernel) (by decide)) ?_
  refine bz_ac (show bz_ok RX10 cX10_alone 19 (bz_iload 3 1) from bz_o_iload_n (k := 3) (i := 3) (by decide +kernel) rfl) ?_
  refine bz_ac (show bz_ok RX10 cX10_alone 20 (bz_push (.int 0) 1) from bz_o_iconst (n := 0) (v := 0) (by decide +kernel) (by decide)) ?_
  refine bz_ac (show bz_ok RX10 cX10_alone 21 (bz_push (.int 99999) 2) from bz_o_ldc (own := RX10) (i := 152) (v := 99999) (by decide +kernel) (bz_tb 502 (by decide +kernel) (by decide +kernel))) ?_
  refine bz_ac (show bz_cok bz_P l RX10 cX10_alone 3 62 23 mX10_isWithin 3 0 from bz_cS' (own := RX10) (idx := 83) (n := 3) bp_X10_isWithin bq_X10_isWithin (by decide +kernel) (bz_tb 322 (by decide +kernel) (by decide +kernel)) (bz_tb 323 (by decide +kernel) (by decide +kernel)) rfl (by decide) (by decide)) ?_
  refine bz_ac (show bz_ok RX10 cX10_alone 26 (bz_if_eq 39) from bz_o_if_eq (off := 13) (t := 39) (by decide +kernel) (by decide)) ?_
  refine bz_ac (show bz_ok RX10 cX10_alone 29 (bz_iload 4 2) from bz_o_iload (i := 4) (by decide +kernel)) ?_
  refine bz_ac (show bz_ok RX10 cX10_alone 31 (bz_push (.int 0) 1) from bz_o_iconst (n := 0) (v := 0) (by decide +kernel) (by decide)) ?_
  refine bz_ac (show bz_ok RX10 cX10_alone 32 (bz_push (.int 2) 1) from bz_o_iconst (n := 2) (v := 2) (by decide +kernel) (by decide)) ?_
  refine bz_ac (show bz_cok bz_P l RX10 cX10_alone 3 62 33 mX10_isWithin 3 0 from bz_cS' (own := RX10) (idx := 83) (n := 3) bp_X10_isWithin bq_X10_isWithin (by decide +kernel) (bz_tb 322 (by decide +kernel) (by decide +kernel)) (bz_tb 323 (by decide +kernel) (by decide +kernel)) rfl (by decide) (by decide)) ?_
  refine bz_ac (show bz_ok RX10 cX10_alone 36 (bz_if_ne 42) from bz_o_if_ne (off := 6) (t := 42) (by decide +kernel) (by decide)) ?_
  refine bz_ac (show bz_ok RX10 cX10_alone 39 (bz_push (.int (-2)) 2) from bz_o_bipush (n := (-2)) (v := (-2)) (by decide +kernel) (by decide)) ?_
  refine bz_ac (show bz_rok cX10_alone (some .int) 41 1 from Or.inr (Or.inl ⟨rfl, rfl, by decide +kernel⟩)) ?_
  refine bz_ac (show bz_ok RX10 cX10_alone 42 (bz_aload 0 1) from bz_o_aload_n (k := 0) (i := 0) (by decide +kernel) rfl) ?_
  refine bz_ac (show bz_ok RX10 cX10_alone 43 (bz_getR 9 4) from bz_o_getR (ci := 9) (k := 4) (idx := 40) (C := RX10) (T := TX10) (N := 8) rfl bh_9 rfl rfl (bz_tb 288 (by decide +kernel) (by decide +kernel)) rfl (by decide +kernel)) ?_
  refine bz_ac (show bz_ok RX10 cX10_alone 46 (bz_iload 1 1) from bz_o_iload_n (k := 1) (i := 1) (by decide +kernel) rfl) ?_
  refine bz_ac (show bz_ok RX10 cX10_alone 47 (bz_iload 2 1) from bz_o_iload_n (k := 2) (i := 2) (by decide +kernel) rfl) ?_
  refine bz_ac (show bz_cok bz_P l RX10 cX10_alone 3 62 48 mX7_walk 3 7 from bz_cV' (own := RX10) (idx := 153) (ci := 6) (N := 3) (T := TX7) (n := 2) bp_X7_walk bq_X7_walk (by decide +kernel) (bz_tb 503 (by decide +kernel) (by decide +kernel)) (bz_tb 504 (by decide +kernel) (by decide +kernel)) (bz_tb 505 (by decide +kernel) (by decide +kernel)) rfl rfl (by decide) (by decide)) ?_
  refine bz_ac (show bz_ok RX10 cX10_alone 51 (bz_iload 4 2) from bz_o_iload (i := 4) (by decide +kernel)) ?_
  refine bz_ac (show bz_ok RX10 cX10_alone 53 (bz_switch [(0, 80), (1, 89)] 97) from bz_o_lookup (df := 44) (ps := #[(0, 27), (1, 36)]) (len := 27) (cs := [(0, 80), (1, 89)]) (d := 97) (by decide +kernel) (by decide) (by decide +kernel) (by decide)) ?_
  refine bz_ac (show bz_ok RX10 cX10_alone 80 (bz_aload 0 1) from bz_o_aload_n (k := 0) (i := 0) (by decide +kernel) rfl) ?_
  refine bz_ac (show bz_ok RX10 cX10_alone 81 (bz_getR 9 4) from bz_o_getR (ci := 9) (k := 4) (idx := 40) (C := RX10) (T := TX10) (N := 8) rfl bh_9 rfl rfl (bz_tb 288 (by decide +kernel) (by decide +kernel)) rfl (by decide +kernel)) ?_
  refine bz_ac (show bz_ok RX10 cX10_alone 84 (bz_iload 3 1) from bz_o_iload_n (k := 3) (i := 3) (by decide +kernel) rfl) ?_
  refine bz_ac (show bz_cok bz_P l RX10 cX10_alone 3 62 85 mX7_cellBehind 2 7 from bz_cV' (own := RX10) (idx := 157) (ci := 6) (N := 3) (T := TX7) (n := 1) bp_X7_cellBehind bq_X7_cellBehind (by decide +kernel) (bz_tb 512 (by decide +kernel) (by decide +kernel)) (bz_tb 513 (by decide +kernel) (by decide +kernel)) (bz_tb 514 (by decide +kernel) (by decide +kernel)) rfl rfl (by decide) (by decide)) ?_
  refine bz_ac (show bz_rok cX10_alone (some .int) 88 1 from Or.inr (Or.inl ⟨rfl, rfl, by decide +kernel⟩)) ?_
  refine bz_ac (show bz_ok RX10 cX10_alone 89 (bz_aload 0 1) from bz_o_aload_n (k := 0) (i := 0) (by decide +kernel) rfl) ?_
  refine bz_ac (show bz_ok RX10 cX10_alone 90 (bz_getR 9 4) from bz_o_getR (ci := 9) (k := 4) (idx := 40) (C := RX10) (T := TX10) (N := 8) rfl bh_9 rfl rfl (bz_tb 288 (by decide +kernel) (by decide +kernel)) rfl (by decide +kernel)) ?_
  refine bz_ac (show bz_ok RX10 cX10_alone 93 (bz_getI 6 1) from bz_o_getI (ci := 6) (k := 1) (idx := 160) (C := RX7) (T := TX7) (N := 3) rfl bh_6 rfl rfl (bz_tb 211 (by decide +kernel) (by decide +kernel)) (Or.inl rfl) (by decide +kernel)) ?_
  refine bz_ac (show bz_rok cX10_alone (some .int) 96 1 from Or.inr (Or.inl ⟨rfl, rfl, by decide +kernel⟩)) ?_
  refine bz_ac (show bz_ok RX10 cX10_alone 97 (bz_aload 0 1) from bz_o_aload_n (k := 0) (i := 0) (by decide +kernel) rfl) ?_
  refine bz_ac (show bz_ok RX10 cX10_alone 98 (bz_getR 9 4) from bz_o_getR (ci := 9) (k := 4) (idx := 40) (C := RX10) (T := TX10) (N := 8) rfl bh_9 rfl rfl (bz_tb 288 (by decide +kernel) (by decide +kernel)) rfl (by decide +kernel)) ?_
  refine bz_ac (show bz_ok RX10 cX10_alone 101 (bz_getL 6 2) from bz_o_getL (ci := 6) (k := 2) (idx := 163) (C := RX7) (T := TX7) (N := 3) rfl bh_6 rfl rfl (bz_tb 213 (by decide +kernel) (by decide +kernel)) rfl (by decide +kernel)) ?_
  refine bz_ac (show bz_cok bz_P l RX10 cX10_alone 3 62 104 mJ13_bitCount_95d88 1 0 from bz_cS' (own := RX10) (idx := 167) (n := 1) bp_J13_bitCount_95d88 bq_J13_bitCount_95d88 (by decide +kernel) (bz_tb 519 (by decide +kernel) (by decide +kernel)) (bz_tb 520 (by decide +kernel) (by decide +kernel)) rfl (by decide) (by decide)) ?_
  refine bz_ac (show bz_rok cX10_alone (some .int) 107 1 from Or.inr (Or.inl ⟨rfl, rfl, by decide +kernel⟩)) ?_
  exact bz_an
set_option maxRecDepth 100000 in
theorem bo_X10_reachOf (l : Launch) : ∀ q ∈ bt_X10_reachOf, bz_rw bz_P l bm_X10_reachOf q := by
  refine bz_ac (show bz_ok RX10 cX10_reachOf 0 (bz_push (.long 0) 1) from bz_o_lconst (n := 0) (v := 0) (by decide +kernel) (by decide)) ?_
  refine bz_ac (show bz_ok RX10 cX10_reachOf 1 (bz_lstore 2 1) from bz_o_lstore_n (k := 2) (i := 2) (by decide +kernel) rfl) ?_
  refine bz_ac (show bz_ok RX10 cX10_reachOf 2 (bz_iload 0 1) from bz_o_iload_n (k := 0) (i := 0) (by decide +kernel) rfl) ?_
  refine bz_ac (show bz_ok RX10 cX10_reachOf 3 (bz_istore 4 2) from bz_o_istore (i := 4) (by decide +kernel)) ?_
  refine bz_ac (show bz_ok RX10 cX10_reachOf 5 (bz_iload 1 1) from bz_o_iload_n (k := 1) (i := 1) (by decide +kernel) rfl) ?_
  refine bz_ac (show bz_ok RX10 cX10_reachOf 6 (bz_istore 5 2) from bz_o_istore (i := 5) (by decide +kernel)) ?_
  refine bz_ac (show bz_ok RX10 cX10_reachOf 8 (bz_push (.int 1) 1) from bz_o_iconst (n := 1) (v := 1) (by decide +kernel) (by decide)) ?_
  refine bz_ac (show bz_ok RX10 cX10_reachOf 9 (bz_istore 6 2) from bz_o_istore (i := 6) (by decide +kernel)) ?_
  refine bz_ac (show bz_ok RX10 cX10_reachOf 11 (bz_iload 6 2) from bz_o_iload (i := 6) (by decide +kernel)) ?_
  refine bz_ac (show bz_ok RX10 cX10_reachOf 13 (bz_push (.int 9) 2) from bz_o_bipush (n := 9) (v := 9) (by decide +kernel) (by decide)) ?_
  refine bz_ac (show bz_ok RX10 cX10_reachOf 15 (bz_ic_gt 60) from bz_o_ic_gt (off := 45) (t := 60) (by decide +kernel) (by decide)) ?_
  refine bz_ac (show bz_ok RX10 cX10_reachOf 18 (bz_iload 4 2) from bz_o_iload (i := 4) (by decide +kernel)) ?_
  refine bz_ac (show bz_ok RX10 cX10_reachOf 20 (bz_iload 5 2) from bz_o_iload (i := 5) (by decide +kernel)) ?_
  refine bz_ac (show bz_cok bz_P l RX10 cX10_reachOf 1 24 22 mX10_turned 2 0 from bz_cS' (own := RX10) (idx := 189) (n := 2) bp_X10_turned bq_X10_turned (by decide +kernel) (bz_tb 536 (by decide +kernel) (by decide +kernel)) (bz_tb 430 (by decide +kernel) (by decide +kernel)) rfl (by decide) (by decide)) ?_
  refine bz_ac (show bz_ok RX10 cX10_reachOf 25 (bz_istore 5 2) from bz_o_istore (i := 5) (by decide +kernel)) ?_
  refine bz_ac (show bz_ok RX10 cX10_reachOf 27 (bz_iload 4 2) from bz_o_iload (i := 4) (by decide +kernel)) ?_
  refine bz_ac (show bz_ok RX10 cX10_reachOf 29 (bz_iload 5 2) from bz_o_iload (i := 5) (by decide +kernel)) ?_
  refine bz_ac (show bz_cok bz_P l RX10 cX10_reachOf 1 24 31 mX10_next 2 0 from bz_cS' (own := RX10) (idx := 193) (n := 2) bp_X10_next bq_X10_next (by decide +kernel) (bz_tb 537 (by decide +kernel) (by decide +kernel)) (bz_tb 437 (by decide +kernel) (by decide +kernel)) rfl (by decide) (by decide)) ?_
  refine bz_ac (show bz_ok RX10 cX10_reachOf 34 (bz_istore 4 2) from bz_o_istore (i := 4) (by decide +kernel)) ?_
  refine bz_ac (show bz_ok RX10 cX10_reachOf 36 (bz_iload 4 2) from bz_o_iload (i := 4) (by decide +kernel)) ?_
  refine bz_ac (show bz_cok bz_P l RX10 cX10_reachOf 1 24 38 mX10_isPocket 1 0 from bz_cS' (own := RX10) (idx := 196) (n := 1) bp_X10_isPocket bq_X10_isPocket (by decide +kernel) (bz_tb 325 (by decide +kernel) (by decide +kernel)) (bz_tb 326 (by decide +kernel) (by decide +kernel)) rfl (by decide) (by decide)) ?_
  refine bz_ac (show bz_ok RX10 cX10_reachOf 41 (bz_if_eq 46) from bz_o_if_eq (off := 5) (t := 46) (by decide +kernel) (by decide)) ?_
  refine bz_ac (show bz_ok RX10 cX10_reachOf 44 (bz_lload 2 1) from bz_o_lload_n (k := 2) (i := 2) (by decide +kernel) rfl) ?_
  refine bz_ac (show bz_rok cX10_reachOf (some .long) 45 2 from Or.inr (Or.inr (Or.inl ⟨rfl, rfl, by decide +kernel⟩))) ?_
  refine bz_ac (show bz_ok RX10 cX10_reachOf 46 (bz_lload 2 1) from bz_o_lload_n (k := 2) (i := 2) (by decide +kernel) rfl) ?_
  refine bz_ac (show bz_ok RX10 cX10_reachOf 47 (bz_iload 4 2) from bz_o_iload (i := 4) (by decide +kernel)) ?_
  refine bz_ac (show bz_cok bz_P l RX10 cX10_reachOf 1 24 49 mX10_bit 1 0 from bz_cS' (own := RX10) (idx := 173) (n := 1) bp_X10_bit bq_X10_bit (by decide +kernel) (bz_tb 529 (by decide +kernel) (by decide +kernel)) (bz_tb 508 (by decide +kernel) (by decide +kernel)) rfl (by decide) (by decide)) ?_
  refine bz_ac (show bz_ok RX10 cX10_reachOf 52 (bz_lor) from bz_o_lor (by decide +kernel)) ?_
  refine bz_ac (show bz_ok RX10 cX10_reachOf 53 (bz_lstore 2 1) from bz_o_lstore_n (k := 2) (i := 2) (by decide +kernel) rfl) ?_
  refine bz_ac (show bz_ok RX10 cX10_reachOf 54 (bz_iinc 6 1) from bz_o_iinc (i := 6) (n := 1) (v := 1) (by decide +kernel) (by decide)) ?_
  refine bz_ac (show bz_ok RX10 cX10_reachOf 57 (bz_goto 11) from bz_o_goto (off := (-46)) (t := 11) (by decide +kernel) (by decide)) ?_
  refine bz_ac (show bz_ok RX10 cX10_reachOf 60 (bz_lload 2 1) from bz_o_lload_n (k := 2) (i := 2) (by decide +kernel) rfl) ?_
  refine bz_ac (show bz_rok cX10_reachOf (some .long) 61 2 from Or.inr (Or.inr (Or.inl ⟨rfl, rfl, by decide +kernel⟩))) ?_
  exact bz_an
set_option maxRecDepth 100000 in
theorem bo_X10_firstWayInto (l : Launch) : ∀ q ∈ bt_X10_firstWayInto, bz_rw bz_P l bm_X10_firstWayInto q := by
  refine bz_ac (show bz_ok RX10 cX10_firstWayInto 0 (bz_push (.int 0) 1) from bz_o_iconst (n := 0) (v := 0) (by decide +kernel) (by decide)) ?_
  refine bz_ac (show bz_ok RX10 cX10_firstWayInto 1 (bz_istore 3 1) from bz_o_istore_n (k := 3) (i := 3) (by decide +kernel) rfl) ?_
  refine bz_ac (show bz_ok RX10 cX10_firstWayInto 2 (bz_iload 3 1) from bz_o_iload_n (k := 3) (i := 3) (by decide +kernel) rfl) ?_
  refine bz_ac (show bz_ok RX10 cX10_firstWayInto 3 (bz_push (.int 8) 2) from bz_o_bipush (n := 8) (v := 8) (by decide +kernel) (by decide)) ?_
  refine bz_ac (show bz_ok RX10 cX10_firstWayInto 5 (bz_ic_ge 28) from bz_o_ic_ge (off := 23) (t := 28) (by decide +kernel) (by decide)) ?_
  refine bz_ac (show bz_ok RX10 cX10_firstWayInto 8 (bz_iload 0 1) from bz_o_iload_n (k := 0) (i := 0) (by decide +kernel) rfl) ?_
  refine bz_ac (show bz_ok RX10 cX10_firstWayInto 9 (bz_iload 3 1) from bz_o_iload_n (k := 3) (i := 3) (by decide +kernel) rfl) ?_
  refine bz_ac (show bz_cok bz_P l RX10 cX10_firstWayInto 2 50 10 mX10_reachOf 2 0 from bz_cS' (own := RX10) (idx := 185) (n := 2) bp_X10_reachOf bq_X10_reachOf (by decide +kernel) (bz_tb 533 (by decide +kernel) (by decide +kernel)) (bz_tb 534 (by decide +kernel) (by decide +kernel)) rfl (by decide) (by decide)) ?_
  refine bz_ac (show bz_ok RX10 cX10_firstWayInto 13 (bz_lload 1 1) from bz_o_lload_n (k := 1) (i := 1) (by decide +kernel) rfl) ?_
  refine bz_ac (show bz_ok RX10 cX10_firstWayInto 14 (bz_land) from bz_o_land (by decide +kernel)) ?_
  refine bz_ac (show bz_ok RX10 cX10_firstWayInto 15 (bz_push (.long 0) 1) from bz_o_lconst (n := 0) (v := 0) (by decide +kernel) (by decide)) ?_
  refine bz_ac (show bz_ok RX10 cX10_firstWayInto 16 (bz_lcmp) from bz_o_lcmp (by decide +kernel)) ?_
  refine bz_ac (show bz_ok RX10 cX10_firstWayInto 17 (bz_if_eq 22) from bz_o_if_eq (off := 5) (t := 22) (by decide +kernel) (by decide)) ?_
  refine bz_ac (show bz_ok RX10 cX10_firstWayInto 20 (bz_iload 3 1) from bz_o_iload_n (k := 3) (i := 3) (by decide +kernel) rfl) ?_
  refine bz_ac (show bz_rok cX10_firstWayInto (some .int) 21 1 from Or.inr (Or.inl ⟨rfl, rfl, by decide +kernel⟩)) ?_
  refine bz_ac (show bz_ok RX10 cX10_firstWayInto 22 (bz_iinc 3 1) from bz_o_iinc (i := 3) (n := 1) (v := 1) (by decide +kernel) (by decide)) ?_
  refine bz_ac (show bz_ok RX10 cX10_firstWayInto 25 (bz_goto 2) from bz_o_goto (off := (-23)) (t := 2) (by decide +kernel) (by decide)) ?_
  refine bz_ac (show bz_ok RX10 cX10_firstWayInto 28 (bz_push (.int (-6)) 2) from bz_o_bipush (n := (-6)) (v := (-6)) (by decide +kernel) (by decide)) ?_
  refine bz_ac (show bz_rok cX10_firstWayInto (some .int) 30 1 from Or.inr (Or.inl ⟨rfl, rfl, by decide +kernel⟩)) ?_
  exact bz_an
set_option maxRecDepth 100000 in
theorem bo_X10_withAllThatReach (l : Launch) : ∀ q ∈ bt_X10_withAllThatReach, bz_rw bz_P l bm_X10_withAllThatReach q := by
  refine bz_ac (show bz_ok RX10 cX10_withAllThatReach 0 (bz_lload 0 1) from bz_o_lload_n (k := 0) (i := 0) (by decide +kernel) rfl) ?_
  refine bz_ac (show bz_ok RX10 cX10_withAllThatReach 1 (bz_lstore 2 1) from bz_o_lstore_n (k := 2) (i := 2) (by decide +kernel) rfl) ?_
  refine bz_ac (show bz_ok RX10 cX10_withAllThatReach 2 (bz_push (.int 0) 1) from bz_o_iconst (n := 0) (v := 0) (by decide +kernel) (by decide)) ?_
  refine bz_ac (show bz_ok RX10 cX10_withAllThatReach 3 (bz_istore 4 2) from bz_o_istore (i := 4) (by decide +kernel)) ?_
  refine bz_ac (show bz_ok RX10 cX10_withAllThatReach 5 (bz_iload 4 2) from bz_o_iload (i := 4) (by decide +kernel)) ?_
  refine bz_ac (show bz_ok RX10 cX10_withAllThatReach 7 (bz_push (.int 45) 2) from bz_o_bipush (n := 45) (v := 45) (by decide +kernel) (by decide)) ?_
  refine bz_ac (show bz_ok RX10 cX10_withAllThatReach 9 (bz_ic_ge 45) from bz_o_ic_ge (off := 36) (t := 45) (by decide +kernel) (by decide)) ?_
  refine bz_ac (show bz_ok RX10 cX10_withAllThatReach 12 (bz_iload 4 2) from bz_o_iload (i := 4) (by decide +kernel)) ?_
  refine bz_ac (show bz_cok bz_P l RX10 cX10_withAllThatReach 3 73 14 mX10_isPlace 1 0 from bz_cS' (own := RX10) (idx := 69) (n := 1) bp_X10_isPlace bq_X10_isPlace (by decide +kernel) (bz_tb 316 (by decide +kernel) (by decide +kernel)) (bz_tb 317 (by decide +kernel) (by decide +kernel)) rfl (by decide) (by decide)) ?_
  refine bz_ac (show bz_ok RX10 cX10_withAllThatReach 17 (bz_if_eq 39) from bz_o_if_eq (off := 22) (t := 39) (by decide +kernel) (by decide)) ?_
  refine bz_ac (show bz_ok RX10 cX10_withAllThatReach 20 (bz_iload 4 2) from bz_o_iload (i := 4) (by decide +kernel)) ?_
  refine bz_ac (show bz_ok RX10 cX10_withAllThatReach 22 (bz_lload 0 1) from bz_o_lload_n (k := 0) (i := 0) (by decide +kernel) rfl) ?_
  refine bz_ac (show bz_cok bz_P l RX10 cX10_withAllThatReach 3 73 23 mX10_firstWayInto 2 0 from bz_cS' (own := RX10) (idx := 177) (n := 2) bp_X10_firstWayInto bq_X10_firstWayInto (by decide +kernel) (bz_tb 530 (by decide +kernel) (by decide +kernel)) (bz_tb 531 (by decide +kernel) (by decide +kernel)) rfl (by decide) (by decide)) ?_
  refine bz_ac (show bz_ok RX10 cX10_withAllThatReach 26 (bz_push (.int (-6)) 2) from bz_o_bipush (n := (-6)) (v := (-6)) (by decide +kernel) (by decide)) ?_
  refine bz_ac (show bz_ok RX10 cX10_withAllThatReach 28 (bz_ic_eq 39) from bz_o_ic_eq (off := 11) (t := 39) (by decide +kernel) (by decide)) ?_
  refine bz_ac (show bz_ok RX10 cX10_withAllThatReach 31 (bz_lload 2 1) from bz_o_lload_n (k := 2) (i := 2) (by decide +kernel) rfl) ?_
  refine bz_ac (show bz_ok RX10 cX10_withAllThatReach 32 (bz_iload 4 2) from bz_o_iload (i := 4) (by decide +kernel)) ?_
  refine bz_ac (show bz_cok bz_P l RX10 cX10_withAllThatReach 3 73 34 mX10_bit 1 0 from bz_cS' (own := RX10) (idx := 173) (n := 1) bp_X10_bit bq_X10_bit (by decide +kernel) (bz_tb 529 (by decide +kernel) (by decide +kernel)) (bz_tb 508 (by decide +kernel) (by decide +kernel)) rfl (by decide) (by decide)) ?_
  refine bz_ac (show bz_ok RX10 cX10_withAllThatReach 37 (bz_lor) from bz_o_lor (by decide +kernel)) ?_
  refine bz_ac (show bz_ok RX10 cX10_withAllThatReach 38 (bz_lstore 2 1) from bz_o_lstore_n (k := 2) (i := 2) (by decide +kernel) rfl) ?_
  refine bz_ac (show bz_ok RX10 cX10_withAllThatReach 39 (bz_iinc 4 1) from bz_o_iinc (i := 4) (n := 1) (v := 1) (by decide +kernel) (by decide)) ?_
  refine bz_ac (show bz_ok RX10 cX10_withAllThatReach 42 (bz_goto 5) from bz_o_goto (off := (-37)) (t := 5) (by decide +kernel) (by decide)) ?_
  refine bz_ac (show bz_ok RX10 cX10_withAllThatReach 45 (bz_lload 2 1) from bz_o_lload_n (k := 2) (i := 2) (by decide +kernel) rfl) ?_
  refine bz_ac (show bz_rok cX10_withAllThatReach (some .long) 46 2 from Or.inr (Or.inr (Or.inl ⟨rfl, rfl, by decide +kernel⟩))) ?_
  exact bz_an
set_option maxRecDepth 100000 in
theorem bo_X10_strokes (l : Launch) : ∀ q ∈ bt_X10_strokes, bz_rw bz_P l bm_X10_strokes q := by
  refine bz_ac (show bz_ok RX10 cX10_strokes 0 (bz_iload 1 1) from bz_o_iload_n (k := 1) (i := 1) (by decide +kernel) rfl) ?_
  refine bz_ac (show bz_cok bz_P l RX10 cX10_strokes 4 97 1 mX10_isPlace 1 0 from bz_cS' (own := RX10) (idx := 69) (n := 1) bp_X10_isPlace bq_X10_isPlace (by decide +kernel) (bz_tb 316 (by decide +kernel) (by decide +kernel)) (bz_tb 317 (by decide +kernel) (by decide +kernel)) rfl (by decide) (by decide)) ?_
  refine bz_ac (show bz_ok RX10 cX10_strokes 4 (bz_if_eq 14) from bz_o_if_eq (off := 10) (t := 14) (by decide +kernel) (by decide)) ?_
  refine bz_ac (show bz_ok RX10 cX10_strokes 7 (bz_iload 2 1) from bz_o_iload_n (k := 2) (i := 2) (by decide +kernel) rfl) ?_
  refine bz_ac (show bz_cok bz_P l RX10 cX10_strokes 4 97 8 mX10_isPlace 1 0 from bz_cS' (own := RX10) (idx := 69) (n := 1) bp_X10_isPlace bq_X10_isPlace (by decide +kernel) (bz_tb 316 (by decide +kernel) (by decide +kernel)) (bz_tb 317 (by decide +kernel) (by decide +kernel)) rfl (by decide) (by decide)) ?_
  refine bz_ac (show bz_ok RX10 cX10_strokes 11 (bz_if_ne 16) from bz_o_if_ne (off := 5) (t := 16) (by decide +kernel) (by decide)) ?_
  refine bz_ac (show bz_ok RX10 cX10_strokes 14 (bz_push (.int (-1)) 1) from bz_o_iconst (n := (-1)) (v := (-1)) (by decide +kernel) (by decide)) ?_
  refine bz_ac (show bz_rok cX10_strokes (some .int) 15 1 from Or.inr (Or.inl ⟨rfl, rfl, by decide +kernel⟩)) ?_
  refine bz_ac (show bz_ok RX10 cX10_strokes 16 (bz_iload 3 1) from bz_o_iload_n (k := 3) (i := 3) (by decide +kernel) rfl) ?_
  refine bz_ac (show bz_ok RX10 cX10_strokes 17 (bz_push (.int 0) 1) from bz_o_iconst (n := 0) (v := 0) (by decide +kernel) (by decide)) ?_
  refine bz_ac (show bz_ok RX10 cX10_strokes 18 (bz_push (.int 1) 1) from bz_o_iconst (n := 1) (v := 1) (by decide +kernel) (by decide)) ?_
  refine bz_ac (show bz_cok bz_P l RX10 cX10_strokes 4 97 19 mX10_isWithin 3 0 from bz_cS' (own := RX10) (idx := 83) (n := 3) bp_X10_isWithin bq_X10_isWithin (by decide +kernel) (bz_tb 322 (by decide +kernel) (by decide +kernel)) (bz_tb 323 (by decide +kernel) (by decide +kernel)) rfl (by decide) (by decide)) ?_
  refine bz_ac (show bz_ok RX10 cX10_strokes 22 (bz_if_ne 28) from bz_o_if_ne (off := 6) (t := 28) (by decide +kernel) (by decide)) ?_
  refine bz_ac (show bz_ok RX10 cX10_strokes 25 (bz_push (.int (-2)) 2) from bz_o_bipush (n := (-2)) (v := (-2)) (by decide +kernel) (by decide)) ?_
  refine bz_ac (show bz_rok cX10_strokes (some .int) 27 1 from Or.inr (Or.inl ⟨rfl, rfl, by decide +kernel⟩)) ?_
  refine bz_ac (show bz_ok RX10 cX10_strokes 28 (bz_iload 1 1) from bz_o_iload_n (k := 1) (i := 1) (by decide +kernel) rfl) ?_
  refine bz_ac (show bz_ok RX10 cX10_strokes 29 (bz_iload 2 1) from bz_o_iload_n (k := 2) (i := 2) (by decide +kernel) rfl) ?_
  refine bz_ac (show bz_ok RX10 cX10_strokes 30 (bz_ic_ne 44) from bz_o_ic_ne (off := 14) (t := 44) (by decide +kernel) (by decide)) ?_
  refine bz_ac (show bz_ok RX10 cX10_strokes 33 (bz_iload 3 1) from bz_o_iload_n (k := 3) (i := 3) (by decide +kernel) rfl) ?_
  refine bz_ac (show bz_ok RX10 cX10_strokes 34 (bz_if_ne 41) from bz_o_if_ne (off := 7) (t := 41) (by decide +kernel) (by decide)) ?_
  refine bz_ac (show bz_ok RX10 cX10_strokes 37 (bz_push (.int 0) 1) from bz_o_iconst (n := 0) (v := 0) (by decide +kernel) (by decide)) ?_
  refine bz_ac (show bz_ok RX10 cX10_strokes 38 (bz_goto 43) from bz_o_goto (off := 5) (t := 43) (by decide +kernel) (by decide)) ?_
  refine bz_ac (show bz_ok RX10 cX10_strokes 41 (bz_push (.int (-6)) 2) from bz_o_bipush (n := (-6)) (v := (-6)) (by decide +kernel) (by decide)) ?_
  refine bz_ac (show bz_rok cX10_strokes (some .int) 43 1 from Or.inr (Or.inl ⟨rfl, rfl, by decide +kernel⟩)) ?_
  refine bz_ac (show bz_ok RX10 cX10_strokes 44 (bz_iload 2 1) from bz_o_iload_n (k := 2) (i := 2) (by decide +kernel) rfl) ?_
  refine bz_ac (show bz_cok bz_P l RX10 cX10_strokes 4 97 45 mX10_bit 1 0 from bz_cS' (own := RX10) (idx := 173) (n := 1) bp_X10_bit bq_X10_bit (by decide +kernel) (bz_tb 529 (by decide +kernel) (by decide +kernel)) (bz_tb 508 (by decide +kernel) (by decide +kernel)) rfl (by decide) (by decide)) ?_
  refine bz_ac (show bz_ok RX10 cX10_strokes 48 (bz_lstore 4 2) from bz_o_lstore (i := 4) (by decide +kernel)) ?_
  refine bz_ac (show bz_ok RX10 cX10_strokes 50 (bz_push (.int 1) 1) from bz_o_iconst (n := 1) (v := 1) (by decide +kernel) (by decide)) ?_
  refine bz_ac (show bz_ok RX10 cX10_strokes 51 (bz_istore 6 2) from bz_o_istore (i := 6) (by decide +kernel)) ?_
  refine bz_ac (show bz_ok RX10 cX10_strokes 53 (bz_iload 6 2) from bz_o_iload (i := 6) (by decide +kernel)) ?_
  refine bz_ac (show bz_ok RX10 cX10_strokes 55 (bz_push (.int 45) 2) from bz_o_bipush (n := 45) (v := 45) (by decide +kernel) (by decide)) ?_
  refine bz_ac (show bz_ok RX10 cX10_strokes 57 (bz_ic_ge 100) from bz_o_ic_ge (off := 43) (t := 100) (by decide +kernel) (by decide)) ?_
  refine bz_ac (show bz_ok RX10 cX10_strokes 60 (bz_iload 1 1) from bz_o_iload_n (k := 1) (i := 1) (by decide +kernel) rfl) ?_
  refine bz_ac (show bz_ok RX10 cX10_strokes 61 (bz_lload 4 2) from bz_o_lload (i := 4) (by decide +kernel)) ?_
  refine bz_ac (show bz_cok bz_P l RX10 cX10_strokes 4 97 63 mX10_firstWayInto 2 0 from bz_cS' (own := RX10) (idx := 177) (n := 2) bp_X10_firstWayInto bq_X10_firstWayInto (by decide +kernel) (bz_tb 530 (by decide +kernel) (by decide +kernel)) (bz_tb 531 (by decide +kernel) (by decide +kernel)) rfl (by decide) (by decide)) ?_
  refine bz_ac (show bz_ok RX10 cX10_strokes 66 (bz_istore 7 2) from bz_o_istore (i := 7) (by decide +kernel)) ?_
  refine bz_ac (show bz_ok RX10 cX10_strokes 68 (bz_iload 7 2) from bz_o_iload (i := 7) (by decide +kernel)) ?_
  refine bz_ac (show bz_ok RX10 cX10_strokes 70 (bz_push (.int (-6)) 2) from bz_o_bipush (n := (-6)) (v := (-6)) (by decide +kernel) (by decide)) ?_
  refine bz_ac (show bz_ok RX10 cX10_strokes 72 (bz_ic_eq 87) from bz_o_ic_eq (off := 15) (t := 87) (by decide +kernel) (by decide)) ?_
  refine bz_ac (show bz_ok RX10 cX10_strokes 75 (bz_iload 3 1) from bz_o_iload_n (k := 3) (i := 3) (by decide +kernel) rfl) ?_
  refine bz_ac (show bz_ok RX10 cX10_strokes 76 (bz_if_ne 84) from bz_o_if_ne (off := 8) (t := 84) (by decide +kernel) (by decide)) ?_
  refine bz_ac (show bz_ok RX10 cX10_strokes 79 (bz_iload 6 2) from bz_o_iload (i := 6) (by decide +kernel)) ?_
  refine bz_ac (show bz_ok RX10 cX10_strokes 81 (bz_goto 86) from bz_o_goto (off := 5) (t := 86) (by decide +kernel) (by decide)) ?_
  refine bz_ac (show bz_ok RX10 cX10_strokes 84 (bz_iload 7 2) from bz_o_iload (i := 7) (by decide +kernel)) ?_
  refine bz_ac (show bz_rok cX10_strokes (some .int) 86 1 from Or.inr (Or.inl ⟨rfl, rfl, by decide +kernel⟩)) ?_
  refine bz_ac (show bz_ok RX10 cX10_strokes 87 (bz_lload 4 2) from bz_o_lload (i := 4) (by decide +kernel)) ?_
  refine bz_ac (show bz_cok bz_P l RX10 cX10_strokes 4 97 89 mX10_withAllThatReach 1 0 from bz_cS' (own := RX10) (idx := 181) (n := 1) bp_X10_withAllThatReach bq_X10_withAllThatReach (by decide +kernel) (bz_tb 538 (by decide +kernel) (by decide +kernel)) (bz_tb 539 (by decide +kernel) (by decide +kernel)) rfl (by decide) (by decide)) ?_
  refine bz_ac (show bz_ok RX10 cX10_strokes 92 (bz_lstore 4 2) from bz_o_lstore (i := 4) (by decide +kernel)) ?_
  refine bz_ac (show bz_ok RX10 cX10_strokes 94 (bz_iinc 6 1) from bz_o_iinc (i := 6) (n := 1) (v := 1) (by decide +kernel) (by decide)) ?_
  refine bz_ac (show bz_ok RX10 cX10_strokes 97 (bz_goto 53) from bz_o_goto (off := (-44)) (t := 53) (by decide +kernel) (by decide)) ?_
  refine bz_ac (show bz_ok RX10 cX10_strokes 100 (bz_push (.int (-6)) 2) from bz_o_bipush (n := (-6)) (v := (-6)) (by decide +kernel) (by decide)) ?_
  refine bz_ac (show bz_rok cX10_strokes (some .int) 102 1 from Or.inr (Or.inl ⟨rfl, rfl, by decide +kernel⟩)) ?_
  exact bz_an
set_option maxRecDepth 100000 in
theorem bo_X10_seen (l : Launch) : ∀ q ∈ bt_X10_seen, bz_rw bz_P l bm_X10_seen q := by
  refine bz_ac (show bz_ok RX10 cX10_seen 0 (bz_iload 2 1) from bz_o_iload_n (k := 2) (i := 2) (by decide +kernel) rfl) ?_
  refine bz_ac (show bz_cok bz_P l RX10 cX10_seen 2 42 1 mX10_isCell 1 0 from bz_cS' (own := RX10) (idx := 199) (n := 1) bp_X10_isCell bq_X10_isCell (by decide +kernel) (bz_tb 319 (by decide +kernel) (by decide +kernel)) (bz_tb 320 (by decide +kernel) (by decide +kernel)) rfl (by decide) (by decide)) ?_
  refine bz_ac (show bz_ok RX10 cX10_seen 4 (bz_if_ne 9) from bz_o_if_ne (off := 5) (t := 9) (by decide +kernel) (by decide)) ?_
  refine bz_ac (show bz_ok RX10 cX10_seen 7 (bz_push (.int (-1)) 1) from bz_o_iconst (n := (-1)) (v := (-1)) (by decide +kernel) (by decide)) ?_
  refine bz_ac (show bz_rok cX10_seen (some .int) 8 1 from Or.inr (Or.inl ⟨rfl, rfl, by decide +kernel⟩)) ?_
  refine bz_ac (show bz_ok RX10 cX10_seen 9 (bz_iload 1 1) from bz_o_iload_n (k := 1) (i := 1) (by decide +kernel) rfl) ?_
  refine bz_ac (show bz_ok RX10 cX10_seen 10 (bz_push (.int 0) 1) from bz_o_iconst (n := 0) (v := 0) (by decide +kernel) (by decide)) ?_
  refine bz_ac (show bz_ok RX10 cX10_seen 11 (bz_push (.int 60) 2) from bz_o_bipush (n := 60) (v := 60) (by decide +kernel) (by decide)) ?_
  refine bz_ac (show bz_cok bz_P l RX10 cX10_seen 2 42 13 mX10_isWithin 3 0 from bz_cS' (own := RX10) (idx := 83) (n := 3) bp_X10_isWithin bq_X10_isWithin (by decide +kernel) (bz_tb 322 (by decide +kernel) (by decide +kernel)) (bz_tb 323 (by decide +kernel) (by decide +kernel)) rfl (by decide) (by decide)) ?_
  refine bz_ac (show bz_ok RX10 cX10_seen 16 (bz_if_ne 22) from bz_o_if_ne (off := 6) (t := 22) (by decide +kernel) (by decide)) ?_
  refine bz_ac (show bz_ok RX10 cX10_seen 19 (bz_push (.int (-2)) 2) from bz_o_bipush (n := (-2)) (v := (-2)) (by decide +kernel) (by decide)) ?_
  refine bz_ac (show bz_rok cX10_seen (some .int) 21 1 from Or.inr (Or.inl ⟨rfl, rfl, by decide +kernel⟩)) ?_
  refine bz_ac (show bz_ok RX10 cX10_seen 22 (bz_aload 0 1) from bz_o_aload_n (k := 0) (i := 0) (by decide +kernel) rfl) ?_
  refine bz_ac (show bz_ok RX10 cX10_seen 23 (bz_getR 9 1) from bz_o_getR (ci := 9) (k := 1) (idx := 19) (C := RX10) (T := TX10) (N := 8) rfl bh_9 rfl rfl (bz_tb 285 (by decide +kernel) (by decide +kernel)) rfl (by decide +kernel)) ?_
  refine bz_ac (show bz_ok RX10 cX10_seen 26 (bz_iload 1 1) from bz_o_iload_n (k := 1) (i := 1) (by decide +kernel) rfl) ?_
  refine bz_ac (show bz_ok RX10 cX10_seen 27 (bz_iload 2 1) from bz_o_iload_n (k := 2) (i := 2) (by decide +kernel) rfl) ?_
  refine bz_ac (show bz_cok bz_P l RX10 cX10_seen 2 42 28 mX4_add 3 4 from bz_cV' (own := RX10) (idx := 202) (ci := 3) (N := 3) (T := TX4) (n := 2) bp_X4_add bq_X4_add (by decide +kernel) (bz_tb 545 (by decide +kernel) (by decide +kernel)) (bz_tb 546 (by decide +kernel) (by decide +kernel)) (bz_tb 547 (by decide +kernel) (by decide +kernel)) rfl rfl (by decide) (by decide)) ?_
  refine bz_ac (show bz_ok RX10 cX10_seen 31 (bz_if_eq 44) from bz_o_if_eq (off := 13) (t := 44) (by decide +kernel) (by decide)) ?_
  refine bz_ac (show bz_ok RX10 cX10_seen 34 (bz_aload 0 1) from bz_o_aload_n (k := 0) (i := 0) (by decide +kernel) rfl) ?_
  refine bz_ac (show bz_ok RX10 cX10_seen 35 (bz_getR 9 1) from bz_o_getR (ci := 9) (k := 1) (idx := 19) (C := RX10) (T := TX10) (N := 8) rfl bh_9 rfl rfl (bz_tb 285 (by decide +kernel) (by decide +kernel)) rfl (by decide +kernel)) ?_
  refine bz_ac (show bz_ok RX10 cX10_seen 38 (bz_getI 3 2) from bz_o_getI (ci := 3) (k := 2) (idx := 205) (C := RX4) (T := TX4) (N := 3) rfl bh_3 rfl rfl (bz_tb 107 (by decide +kernel) (by decide +kernel)) (Or.inl rfl) (by decide +kernel)) ?_
  refine bz_ac (show bz_ok RX10 cX10_seen 41 (bz_goto 46) from bz_o_goto (off := 5) (t := 46) (by decide +kernel) (by decide)) ?_
  refine bz_ac (show bz_ok RX10 cX10_seen 44 (bz_push (.int (-4)) 2) from bz_o_bipush (n := (-4)) (v := (-4)) (by decide +kernel) (by decide)) ?_
  refine bz_ac (show bz_rok cX10_seen (some .int) 46 1 from Or.inr (Or.inl ⟨rfl, rfl, by decide +kernel⟩)) ?_
  exact bz_an
set_option maxRecDepth 100000 in
theorem bo_X10_forget (l : Launch) : ∀ q ∈ bt_X10_forget, bz_rw bz_P l bm_X10_forget q := by
  refine bz_ac (show bz_ok RX10 cX10_forget 0 (bz_aload 0 1) from bz_o_aload_n (k := 0) (i := 0) (by decide +kernel) rfl) ?_
  refine bz_ac (show bz_ok RX10 cX10_forget 1 (bz_getR 9 1) from bz_o_getR (ci := 9) (k := 1) (idx := 19) (C := RX10) (T := TX10) (N := 8) rfl bh_9 rfl rfl (bz_tb 285 (by decide +kernel) (by decide +kernel)) rfl (by decide +kernel)) ?_
  refine bz_ac (show bz_ok RX10 cX10_forget 4 (bz_getI 3 2) from bz_o_getI (ci := 3) (k := 2) (idx := 205) (C := RX4) (T := TX4) (N := 3) rfl bh_3 rfl rfl (bz_tb 107 (by decide +kernel) (by decide +kernel)) (Or.inl rfl) (by decide +kernel)) ?_
  refine bz_ac (show bz_ok RX10 cX10_forget 7 (bz_istore 1 1) from bz_o_istore_n (k := 1) (i := 1) (by decide +kernel) rfl) ?_
  refine bz_ac (show bz_ok RX10 cX10_forget 8 (bz_aload 0 1) from bz_o_aload_n (k := 0) (i := 0) (by decide +kernel) rfl) ?_
  refine bz_ac (show bz_ok RX10 cX10_forget 9 (bz_getR 9 1) from bz_o_getR (ci := 9) (k := 1) (idx := 19) (C := RX10) (T := TX10) (N := 8) rfl bh_9 rfl rfl (bz_tb 285 (by decide +kernel) (by decide +kernel)) rfl (by decide +kernel)) ?_
  refine bz_ac (show bz_ok RX10 cX10_forget 12 (bz_push (.int 0) 1) from bz_o_iconst (n := 0) (v := 0) (by decide +kernel) (by decide)) ?_
  refine bz_ac (show bz_ok RX10 cX10_forget 13 (bz_putI 3 2) from bz_o_putI (ci := 3) (k := 2) (idx := 205) (C := RX4) (T := TX4) (N := 3) rfl bh_3 rfl rfl (bz_tb 107 (by decide +kernel) (by decide +kernel)) tyX4 tyX4_ok nmX4 rfl rfl rfl (by decide +kernel)) ?_
  refine bz_ac (show bz_ok RX10 cX10_forget 16 (bz_iload 1 1) from bz_o_iload_n (k := 1) (i := 1) (by decide +kernel) rfl) ?_
  refine bz_ac (show bz_rok cX10_forget (some .int) 17 1 from Or.inr (Or.inl ⟨rfl, rfl, by decide +kernel⟩)) ?_
  exact bz_an
set_option maxRecDepth 100000 in
theorem bo_X10_sent (l : Launch) : ∀ q ∈ bt_X10_sent, bz_rw bz_P l bm_X10_sent q := by
  refine bz_ac (show bz_ok RX10 cX10_sent 0 (bz_aload 0 1) from bz_o_aload_n (k := 0) (i := 0) (by decide +kernel) rfl) ?_
  refine bz_ac (show bz_ok RX10 cX10_sent 1 (bz_getR 9 5) from bz_o_getR (ci := 9) (k := 5) (idx := 47) (C := RX10) (T := TX10) (N := 8) rfl bh_9 rfl rfl (bz_tb 289 (by decide +kernel) (by decide +kernel)) rfl (by decide +kernel)) ?_
  refine bz_ac (show bz_ok RX10 cX10_sent 4 (bz_aload 0 1) from bz_o_aload_n (k := 0) (i := 0) (by decide +kernel) rfl) ?_
  refine bz_ac (show bz_ok RX10 cX10_sent 5 (bz_getR 9 1) from bz_o_getR (ci := 9) (k := 1) (idx := 19) (C := RX10) (T := TX10) (N := 8) rfl bh_9 rfl rfl (bz_tb 285 (by decide +kernel) (by decide +kernel)) rfl (by decide +kernel)) ?_
  refine bz_ac (show bz_ok RX10 cX10_sent 8 (bz_aload 0 1) from bz_o_aload_n (k := 0) (i := 0) (by decide +kernel) rfl) ?_
  refine bz_ac (show bz_ok RX10 cX10_sent 9 (bz_getR 9 4) from bz_o_getR (ci := 9) (k := 4) (idx := 40) (C := RX10) (T := TX10) (N := 8) rfl bh_9 rfl rfl (bz_tb 288 (by decide +kernel) (by decide +kernel)) rfl (by decide +kernel)) ?_
  refine bz_ac (show bz_cok bz_P l RX10 cX10_sent 4 89 12 mX9_gather 3 9 from bz_cV' (own := RX10) (idx := 206) (ci := 8) (N := 5) (T := TX9) (n := 2) bp_X9_gather bq_X9_gather (by decide +kernel) (bz_tb 557 (by decide +kernel) (by decide +kernel)) (bz_tb 558 (by decide +kernel) (by decide +kernel)) (bz_tb 559 (by decide +kernel) (by decide +kernel)) rfl rfl (by decide) (by decide)) ?_
  refine bz_ac (show bz_ok RX10 cX10_sent 15 (bz_iload 1 1) from bz_o_iload_n (k := 1) (i := 1) (by decide +kernel) rfl) ?_
  refine bz_ac (show bz_ok RX10 cX10_sent 16 (bz_push (.int (-1)) 1) from bz_o_iconst (n := (-1)) (v := (-1)) (by decide +kernel) (by decide)) ?_
  refine bz_ac (show bz_ok RX10 cX10_sent 17 (bz_ic_ne 28) from bz_o_ic_ne (off := 11) (t := 28) (by decide +kernel) (by decide)) ?_
  refine bz_ac (show bz_ok RX10 cX10_sent 20 (bz_aload 0 1) from bz_o_aload_n (k := 0) (i := 0) (by decide +kernel) rfl) ?_
  refine bz_ac (show bz_ok RX10 cX10_sent 21 (bz_getR 9 5) from bz_o_getR (ci := 9) (k := 5) (idx := 47) (C := RX10) (T := TX10) (N := 8) rfl bh_9 rfl rfl (bz_tb 289 (by decide +kernel) (by decide +kernel)) rfl (by decide +kernel)) ?_
  refine bz_ac (show bz_ok RX10 cX10_sent 24 (bz_getI 8 1) from bz_o_getI (ci := 8) (k := 1) (idx := 210) (C := RX9) (T := TX9) (N := 5) rfl bh_8 rfl rfl (bz_tb 230 (by decide +kernel) (by decide +kernel)) (Or.inl rfl) (by decide +kernel)) ?_
  refine bz_ac (show bz_rok cX10_sent (some .int) 27 1 from Or.inr (Or.inl ⟨rfl, rfl, by decide +kernel⟩)) ?_
  refine bz_ac (show bz_ok RX10 cX10_sent 28 (bz_iload 1 1) from bz_o_iload_n (k := 1) (i := 1) (by decide +kernel) rfl) ?_
  refine bz_ac (show bz_ok RX10 cX10_sent 29 (bz_push (.int 0) 1) from bz_o_iconst (n := 0) (v := 0) (by decide +kernel) (by decide)) ?_
  refine bz_ac (show bz_ok RX10 cX10_sent 30 (bz_aload 0 1) from bz_o_aload_n (k := 0) (i := 0) (by decide +kernel) rfl) ?_
  refine bz_ac (show bz_ok RX10 cX10_sent 31 (bz_getR 9 5) from bz_o_getR (ci := 9) (k := 5) (idx := 47) (C := RX10) (T := TX10) (N := 8) rfl bh_9 rfl rfl (bz_tb 289 (by decide +kernel) (by decide +kernel)) rfl (by decide +kernel)) ?_
  refine bz_ac (show bz_ok RX10 cX10_sent 34 (bz_getI 8 1) from bz_o_getI (ci := 8) (k := 1) (idx := 210) (C := RX9) (T := TX9) (N := 5) rfl bh_8 rfl rfl (bz_tb 230 (by decide +kernel) (by decide +kernel)) (Or.inl rfl) (by decide +kernel)) ?_
  refine bz_ac (show bz_ok RX10 cX10_sent 37 (bz_push (.int 1) 1) from bz_o_iconst (n := 1) (v := 1) (by decide +kernel) (by decide)) ?_
  refine bz_ac (show bz_ok RX10 cX10_sent 38 (bz_isub) from bz_o_isub (by decide +kernel)) ?_
  refine bz_ac (show bz_cok bz_P l RX10 cX10_sent 4 89 39 mX10_isWithin 3 0 from bz_cS' (own := RX10) (idx := 83) (n := 3) bp_X10_isWithin bq_X10_isWithin (by decide +kernel) (bz_tb 322 (by decide +kernel) (by decide +kernel)) (bz_tb 323 (by decide +kernel) (by decide +kernel)) rfl (by decide) (by decide)) ?_
  refine bz_ac (show bz_ok RX10 cX10_sent 42 (bz_if_eq 57) from bz_o_if_eq (off := 15) (t := 57) (by decide +kernel) (by decide)) ?_
  refine bz_ac (show bz_ok RX10 cX10_sent 45 (bz_aload 0 1) from bz_o_aload_n (k := 0) (i := 0) (by decide +kernel) rfl) ?_
  refine bz_ac (show bz_ok RX10 cX10_sent 46 (bz_getR 9 5) from bz_o_getR (ci := 9) (k := 5) (idx := 47) (C := RX10) (T := TX10) (N := 8) rfl bh_9 rfl rfl (bz_tb 289 (by decide +kernel) (by decide +kernel)) rfl (by decide +kernel)) ?_
  refine bz_ac (show bz_ok RX10 cX10_sent 49 (bz_getR 8 0) from bz_o_getR (ci := 8) (k := 0) (idx := 211) (C := RX9) (T := TX9) (N := 5) rfl bh_8 rfl rfl (bz_tb 228 (by decide +kernel) (by decide +kernel)) rfl (by decide +kernel)) ?_
  refine bz_ac (show bz_ok RX10 cX10_sent 52 (bz_iload 1 1) from bz_o_iload_n (k := 1) (i := 1) (by decide +kernel) rfl) ?_
  refine bz_ac (show bz_ok RX10 cX10_sent 53 (bz_iald) from bz_o_iald (by decide +kernel)) ?_
  refine bz_ac (show bz_ok RX10 cX10_sent 54 (bz_goto 59) from bz_o_goto (off := 5) (t := 59) (by decide +kernel) (by decide)) ?_
  refine bz_ac (show bz_ok RX10 cX10_sent 57 (bz_push (.int (-6)) 2) from bz_o_bipush (n := (-6)) (v := (-6)) (by decide +kernel) (by decide)) ?_
  refine bz_ac (show bz_rok cX10_sent (some .int) 59 1 from Or.inr (Or.inl ⟨rfl, rfl, by decide +kernel⟩)) ?_
  exact bz_an
set_option maxRecDepth 100000 in
theorem bo_X10_ask (l : Launch) : ∀ q ∈ bt_X10_ask, bz_rw bz_P l bm_X10_ask q := by
  refine bz_ac (show bz_ok RX10 cX10_ask 0 (bz_iload 1 1) from bz_o_iload_n (k := 1) (i := 1) (by decide +kernel) rfl) ?_
  refine bz_ac (show bz_ok RX10 cX10_ask 1 (bz_push (.int 0) 1) from bz_o_iconst (n := 0) (v := 0) (by decide +kernel) (by decide)) ?_
  refine bz_ac (show bz_ok RX10 cX10_ask 2 (bz_push (.int 1) 1) from bz_o_iconst (n := 1) (v := 1) (by decide +kernel) (by decide)) ?_
  refine bz_ac (show bz_cok bz_P l RX10 cX10_ask 4 95 3 mX10_isWithin 3 0 from bz_cS' (own := RX10) (idx := 83) (n := 3) bp_X10_isWithin bq_X10_isWithin (by decide +kernel) (bz_tb 322 (by decide +kernel) (by decide +kernel)) (bz_tb 323 (by decide +kernel) (by decide +kernel)) rfl (by decide) (by decide)) ?_
  refine bz_ac (show bz_ok RX10 cX10_ask 6 (bz_if_ne 12) from bz_o_if_ne (off := 6) (t := 12) (by decide +kernel) (by decide)) ?_
  refine bz_ac (show bz_ok RX10 cX10_ask 9 (bz_push (.int (-2)) 2) from bz_o_bipush (n := (-2)) (v := (-2)) (by decide +kernel) (by decide)) ?_
  refine bz_ac (show bz_rok cX10_ask (some .int) 11 1 from Or.inr (Or.inl ⟨rfl, rfl, by decide +kernel⟩)) ?_
  refine bz_ac (show bz_ok RX10 cX10_ask 12 (bz_aload 0 1) from bz_o_aload_n (k := 0) (i := 0) (by decide +kernel) rfl) ?_
  refine bz_ac (show bz_ok RX10 cX10_ask 13 (bz_getR 9 5) from bz_o_getR (ci := 9) (k := 5) (idx := 47) (C := RX10) (T := TX10) (N := 8) rfl bh_9 rfl rfl (bz_tb 289 (by decide +kernel) (by decide +kernel)) rfl (by decide +kernel)) ?_
  refine bz_ac (show bz_ok RX10 cX10_ask 16 (bz_aload 0 1) from bz_o_aload_n (k := 0) (i := 0) (by decide +kernel) rfl) ?_
  refine bz_ac (show bz_ok RX10 cX10_ask 17 (bz_getR 9 1) from bz_o_getR (ci := 9) (k := 1) (idx := 19) (C := RX10) (T := TX10) (N := 8) rfl bh_9 rfl rfl (bz_tb 285 (by decide +kernel) (by decide +kernel)) rfl (by decide +kernel)) ?_
  refine bz_ac (show bz_ok RX10 cX10_ask 20 (bz_aload 0 1) from bz_o_aload_n (k := 0) (i := 0) (by decide +kernel) rfl) ?_
  refine bz_ac (show bz_ok RX10 cX10_ask 21 (bz_getR 9 4) from bz_o_getR (ci := 9) (k := 4) (idx := 40) (C := RX10) (T := TX10) (N := 8) rfl bh_9 rfl rfl (bz_tb 288 (by decide +kernel) (by decide +kernel)) rfl (by decide +kernel)) ?_
  refine bz_ac (show bz_cok bz_P l RX10 cX10_ask 4 95 24 mX9_gather 3 9 from bz_cV' (own := RX10) (idx := 206) (ci := 8) (N := 5) (T := TX9) (n := 2) bp_X9_gather bq_X9_gather (by decide +kernel) (bz_tb 557 (by decide +kernel) (by decide +kernel)) (bz_tb 558 (by decide +kernel) (by decide +kernel)) (bz_tb 559 (by decide +kernel) (by decide +kernel)) rfl rfl (by decide) (by decide)) ?_
  refine bz_ac (show bz_ok RX10 cX10_ask 27 (bz_aload 0 1) from bz_o_aload_n (k := 0) (i := 0) (by decide +kernel) rfl) ?_
  refine bz_ac (show bz_ok RX10 cX10_ask 28 (bz_getR 9 5) from bz_o_getR (ci := 9) (k := 5) (idx := 47) (C := RX10) (T := TX10) (N := 8) rfl bh_9 rfl rfl (bz_tb 289 (by decide +kernel) (by decide +kernel)) rfl (by decide +kernel)) ?_
  refine bz_ac (show bz_ok RX10 cX10_ask 31 (bz_getI 8 1) from bz_o_getI (ci := 8) (k := 1) (idx := 210) (C := RX9) (T := TX9) (N := 5) rfl bh_8 rfl rfl (bz_tb 230 (by decide +kernel) (by decide +kernel)) (Or.inl rfl) (by decide +kernel)) ?_
  refine bz_ac (show bz_ok RX10 cX10_ask 34 (bz_if_ne 40) from bz_o_if_ne (off := 6) (t := 40) (by decide +kernel) (by decide)) ?_
  refine bz_ac (show bz_ok RX10 cX10_ask 37 (bz_push (.int (-6)) 2) from bz_o_bipush (n := (-6)) (v := (-6)) (by decide +kernel) (by decide)) ?_
  refine bz_ac (show bz_rok cX10_ask (some .int) 39 1 from Or.inr (Or.inl ⟨rfl, rfl, by decide +kernel⟩)) ?_
  refine bz_ac (show bz_ok RX10 cX10_ask 40 (bz_aload 0 1) from bz_o_aload_n (k := 0) (i := 0) (by decide +kernel) rfl) ?_
  refine bz_ac (show bz_ok RX10 cX10_ask 41 (bz_getR 9 5) from bz_o_getR (ci := 9) (k := 5) (idx := 47) (C := RX10) (T := TX10) (N := 8) rfl bh_9 rfl rfl (bz_tb 289 (by decide +kernel) (by decide +kernel)) rfl (by decide +kernel)) ?_
  refine bz_ac (show bz_ok RX10 cX10_ask 44 (bz_aload 0 1) from bz_o_aload_n (k := 0) (i := 0) (by decide +kernel) rfl) ?_
  refine bz_ac (show bz_ok RX10 cX10_ask 45 (bz_getR 9 4) from bz_o_getR (ci := 9) (k := 4) (idx := 40) (C := RX10) (T := TX10) (N := 8) rfl bh_9 rfl rfl (bz_tb 288 (by decide +kernel) (by decide +kernel)) rfl (by decide +kernel)) ?_
  refine bz_ac (show bz_cok bz_P l RX10 cX10_ask 4 95 48 mX9_chooseStep 2 9 from bz_cV' (own := RX10) (idx := 214) (ci := 8) (N := 5) (T := TX9) (n := 1) bp_X9_chooseStep bq_X9_chooseStep (by decide +kernel) (bz_tb 572 (by decide +kernel) (by decide +kernel)) (bz_tb 573 (by decide +kernel) (by decide +kernel)) (bz_tb 574 (by decide +kernel) (by decide +kernel)) rfl rfl (by decide) (by decide)) ?_
  refine bz_ac (show bz_ok RX10 cX10_ask 51 (bz_iload 1 1) from bz_o_iload_n (k := 1) (i := 1) (by decide +kernel) rfl) ?_
  refine bz_ac (show bz_ok RX10 cX10_ask 52 (bz_if_ne 65) from bz_o_if_ne (off := 13) (t := 65) (by decide +kernel) (by decide)) ?_
  refine bz_ac (show bz_ok RX10 cX10_ask 55 (bz_aload 0 1) from bz_o_aload_n (k := 0) (i := 0) (by decide +kernel) rfl) ?_
  refine bz_ac (show bz_ok RX10 cX10_ask 56 (bz_getR 9 5) from bz_o_getR (ci := 9) (k := 5) (idx := 47) (C := RX10) (T := TX10) (N := 8) rfl bh_9 rfl rfl (bz_tb 289 (by decide +kernel) (by decide +kernel)) rfl (by decide +kernel)) ?_
  refine bz_ac (show bz_ok RX10 cX10_ask 59 (bz_getI 8 2) from bz_o_getI (ci := 8) (k := 2) (idx := 218) (C := RX9) (T := TX9) (N := 5) rfl bh_8 rfl rfl (bz_tb 232 (by decide +kernel) (by decide +kernel)) (Or.inl rfl) (by decide +kernel)) ?_
  refine bz_ac (show bz_ok RX10 cX10_ask 62 (bz_goto 72) from bz_o_goto (off := 10) (t := 72) (by decide +kernel) (by decide)) ?_
  refine bz_ac (show bz_ok RX10 cX10_ask 65 (bz_aload 0 1) from bz_o_aload_n (k := 0) (i := 0) (by decide +kernel) rfl) ?_
  refine bz_ac (show bz_ok RX10 cX10_ask 66 (bz_getR 9 5) from bz_o_getR (ci := 9) (k := 5) (idx := 47) (C := RX10) (T := TX10) (N := 8) rfl bh_9 rfl rfl (bz_tb 289 (by decide +kernel) (by decide +kernel)) rfl (by decide +kernel)) ?_
  refine bz_ac (show bz_ok RX10 cX10_ask 69 (bz_getI 8 3) from bz_o_getI (ci := 8) (k := 3) (idx := 221) (C := RX9) (T := TX9) (N := 5) rfl bh_8 rfl rfl (bz_tb 234 (by decide +kernel) (by decide +kernel)) (Or.inl rfl) (by decide +kernel)) ?_
  refine bz_ac (show bz_rok cX10_ask (some .int) 72 1 from Or.inr (Or.inl ⟨rfl, rfl, by decide +kernel⟩)) ?_
  exact bz_an
set_option maxRecDepth 100000 in
theorem bo_X10_chalk (l : Launch) : ∀ q ∈ bt_X10_chalk, bz_rw bz_P l bm_X10_chalk q := by
  refine bz_ac (show bz_ok RX10 cX10_chalk 0 (bz_iload 1 1) from bz_o_iload_n (k := 1) (i := 1) (by decide +kernel) rfl) ?_
  refine bz_ac (show bz_ok RX10 cX10_chalk 1 (bz_push (.int 0) 1) from bz_o_iconst (n := 0) (v := 0) (by decide +kernel) (by decide)) ?_
  refine bz_ac (show bz_ok RX10 cX10_chalk 2 (bz_push (.int 999) 3) from bz_o_sipush (n := 999) (v := 999) (by decide +kernel) (by decide)) ?_
  refine bz_ac (show bz_cok bz_P l RX10 cX10_chalk 4 98 5 mX10_isWithin 3 0 from bz_cS' (own := RX10) (idx := 83) (n := 3) bp_X10_isWithin bq_X10_isWithin (by decide +kernel) (bz_tb 322 (by decide +kernel) (by decide +kernel)) (bz_tb 323 (by decide +kernel) (by decide +kernel)) rfl (by decide) (by decide)) ?_
  refine bz_ac (show bz_ok RX10 cX10_chalk 8 (bz_if_eq 29) from bz_o_if_eq (off := 21) (t := 29) (by decide +kernel) (by decide)) ?_
  refine bz_ac (show bz_ok RX10 cX10_chalk 11 (bz_iload 2 1) from bz_o_iload_n (k := 2) (i := 2) (by decide +kernel) rfl) ?_
  refine bz_ac (show bz_ok RX10 cX10_chalk 12 (bz_push (.int 0) 1) from bz_o_iconst (n := 0) (v := 0) (by decide +kernel) (by decide)) ?_
  refine bz_ac (show bz_ok RX10 cX10_chalk 13 (bz_push (.int 1) 1) from bz_o_iconst (n := 1) (v := 1) (by decide +kernel) (by decide)) ?_
  refine bz_ac (show bz_cok bz_P l RX10 cX10_chalk 4 98 14 mX10_isWithin 3 0 from bz_cS' (own := RX10) (idx := 83) (n := 3) bp_X10_isWithin bq_X10_isWithin (by decide +kernel) (bz_tb 322 (by decide +kernel) (by decide +kernel)) (bz_tb 323 (by decide +kernel) (by decide +kernel)) rfl (by decide) (by decide)) ?_
  refine bz_ac (show bz_ok RX10 cX10_chalk 17 (bz_if_eq 29) from bz_o_if_eq (off := 12) (t := 29) (by decide +kernel) (by decide)) ?_
  refine bz_ac (show bz_ok RX10 cX10_chalk 20 (bz_iload 3 1) from bz_o_iload_n (k := 3) (i := 3) (by decide +kernel) rfl) ?_
  refine bz_ac (show bz_ok RX10 cX10_chalk 21 (bz_push (.int 0) 1) from bz_o_iconst (n := 0) (v := 0) (by decide +kernel) (by decide)) ?_
  refine bz_ac (show bz_ok RX10 cX10_chalk 22 (bz_push (.int 1) 1) from bz_o_iconst (n := 1) (v := 1) (by decide +kernel) (by decide)) ?_
  refine bz_ac (show bz_cok bz_P l RX10 cX10_chalk 4 98 23 mX10_isWithin 3 0 from bz_cS' (own := RX10) (idx := 83) (n := 3) bp_X10_isWithin bq_X10_isWithin (by decide +kernel) (bz_tb 322 (by decide +kernel) (by decide +kernel)) (bz_tb 323 (by decide +kernel) (by decide +kernel)) rfl (by decide) (by decide)) ?_
  refine bz_ac (show bz_ok RX10 cX10_chalk 26 (bz_if_ne 32) from bz_o_if_ne (off := 6) (t := 32) (by decide +kernel) (by decide)) ?_
  refine bz_ac (show bz_ok RX10 cX10_chalk 29 (bz_push (.int (-2)) 2) from bz_o_bipush (n := (-2)) (v := (-2)) (by decide +kernel) (by decide)) ?_
  refine bz_ac (show bz_rok cX10_chalk (some .int) 31 1 from Or.inr (Or.inl ⟨rfl, rfl, by decide +kernel⟩)) ?_
  refine bz_ac (show bz_ok RX10 cX10_chalk 32 (bz_aload 0 1) from bz_o_aload_n (k := 0) (i := 0) (by decide +kernel) rfl) ?_
  refine bz_ac (show bz_ok RX10 cX10_chalk 33 (bz_getR 9 6) from bz_o_getR (ci := 9) (k := 6) (idx := 54) (C := RX10) (T := TX10) (N := 8) rfl bh_9 rfl rfl (bz_tb 290 (by decide +kernel) (by decide +kernel)) rfl (by decide +kernel)) ?_
  refine bz_ac (show bz_ok RX10 cX10_chalk 36 (bz_iload 1 1) from bz_o_iload_n (k := 1) (i := 1) (by decide +kernel) rfl) ?_
  refine bz_ac (show bz_ok RX10 cX10_chalk 37 (bz_iload 2 1) from bz_o_iload_n (k := 2) (i := 2) (by decide +kernel) rfl) ?_
  refine bz_ac (show bz_ok RX10 cX10_chalk 38 (bz_push (.int 1) 1) from bz_o_iconst (n := 1) (v := 1) (by decide +kernel) (by decide)) ?_
  refine bz_ac (show bz_ok RX10 cX10_chalk 39 (bz_ic_ne 46) from bz_o_ic_ne (off := 7) (t := 46) (by decide +kernel) (by decide)) ?_
  refine bz_ac (show bz_ok RX10 cX10_chalk 42 (bz_push (.int 1) 1) from bz_o_iconst (n := 1) (v := 1) (by decide +kernel) (by decide)) ?_
  refine bz_ac (show bz_ok RX10 cX10_chalk 43 (bz_goto 47) from bz_o_goto (off := 4) (t := 47) (by decide +kernel) (by decide)) ?_
  refine bz_ac (show bz_ok RX10 cX10_chalk 46 (bz_push (.int 0) 1) from bz_o_iconst (n := 0) (v := 0) (by decide +kernel) (by decide)) ?_
  refine bz_ac (show bz_cok bz_P l RX10 cX10_chalk 4 98 47 mX0_winningMove 3 1 from bz_cV' (own := RX10) (idx := 224) (ci := 0) (N := 2) (T := TX0) (n := 2) bp_X0_winningMove bq_X0_winningMove (by decide +kernel) (bz_tb 592 (by decide +kernel) (by decide +kernel)) (bz_tb 593 (by decide +kernel) (by decide +kernel)) (bz_tb 594 (by decide +kernel) (by decide +kernel)) rfl rfl (by decide) (by decide)) ?_
  refine bz_ac (show bz_ok RX10 cX10_chalk 50 (bz_istore 4 2) from bz_o_istore (i := 4) (by decide +kernel)) ?_
  refine bz_ac (show bz_ok RX10 cX10_chalk 52 (bz_iload 3 1) from bz_o_iload_n (k := 3) (i := 3) (by decide +kernel) rfl) ?_
  refine bz_ac (show bz_ok RX10 cX10_chalk 53 (bz_if_ne 69) from bz_o_if_ne (off := 16) (t := 69) (by decide +kernel) (by decide)) ?_
  refine bz_ac (show bz_ok RX10 cX10_chalk 56 (bz_iload 4 2) from bz_o_iload (i := 4) (by decide +kernel)) ?_
  refine bz_ac (show bz_ok RX10 cX10_chalk 58 (bz_push (.int (-6)) 2) from bz_o_bipush (n := (-6)) (v := (-6)) (by decide +kernel) (by decide)) ?_
  refine bz_ac (show bz_ok RX10 cX10_chalk 60 (bz_ic_ne 67) from bz_o_ic_ne (off := 7) (t := 67) (by decide +kernel) (by decide)) ?_
  refine bz_ac (show bz_ok RX10 cX10_chalk 63 (bz_push (.int 0) 1) from bz_o_iconst (n := 0) (v := 0) (by decide +kernel) (by decide)) ?_
  refine bz_ac (show bz_ok RX10 cX10_chalk 64 (bz_goto 68) from bz_o_goto (off := 4) (t := 68) (by decide +kernel) (by decide)) ?_
  refine bz_ac (show bz_ok RX10 cX10_chalk 67 (bz_push (.int 1) 1) from bz_o_iconst (n := 1) (v := 1) (by decide +kernel) (by decide)) ?_
  refine bz_ac (show bz_rok cX10_chalk (some .int) 68 1 from Or.inr (Or.inl ⟨rfl, rfl, by decide +kernel⟩)) ?_
  refine bz_ac (show bz_ok RX10 cX10_chalk 69 (bz_iload 4 2) from bz_o_iload (i := 4) (by decide +kernel)) ?_
  refine bz_ac (show bz_rok cX10_chalk (some .int) 71 1 from Or.inr (Or.inl ⟨rfl, rfl, by decide +kernel⟩)) ?_
  exact bz_an
