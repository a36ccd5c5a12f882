set_option maxRecDepth 100000 in
theorem bo_X11_refusal (l : Launch) : ∀ q ∈ bt_X11_refusal, bz_rw bz_P l bm_X11_refusal q := by
  refine bz_ac (show bz_ok RX11 cX11_refusal 0 (bz_aload 0 1) from bz_o_aload_n (k := 0) (i := 0) (by decide +kernel) rfl) ?_
  refine bz_ac (show bz_cok bz_P l RX11 cX11_refusal 7 166 1 mX11_keepNow 1 11 from bz_cV' (own := RX11) (idx := 236) (ci := 10) (N := 42) (T := TX11) (n := 0) bp_X11_keepNow bq_X11_keepNow (by decide +kernel) (bz_tb 879 (by decide +kernel) (by decide +kernel)) (bz_tb 881 (by decide +kernel) (by decide +kernel)) (bz_tb 19 (by decide +kernel) (by decide +kernel)) rfl rfl (by decide) (by decide)) ?_
  refine bz_ac (show bz_ok RX11 cX11_refusal 4 (bz_aload 0 1) from bz_o_aload_n (k := 0) (i := 0) (by decide +kernel) rfl) ?_
  refine bz_ac (show bz_cok bz_P l RX11 cX11_refusal 7 166 5 mX11_fault 1 11 from bz_cV' (own := RX11) (idx := 239) (ci := 10) (N := 42) (T := TX11) (n := 0) bp_X11_fault bq_X11_fault (by decide +kernel) (bz_tb 883 (by decide +kernel) (by decide +kernel)) (bz_tb 842 (by decide +kernel) (by decide +kernel)) (bz_tb 843 (by decide +kernel) (by decide +kernel)) rfl rfl (by decide) (by decide)) ?_
  refine bz_ac (show bz_ok RX11 cX11_refusal 8 (bz_if_lt 14) from bz_o_if_lt (off := 6) (t := 14) (by decide +kernel) (by decide)) ?_
  refine bz_ac (show bz_ok RX11 cX11_refusal 11 (bz_push (.int (-5)) 2) from bz_o_bipush (n := (-5)) (v := (-5)) (by decide +kernel) (by decide)) ?_
  refine bz_ac (show bz_rok cX11_refusal (some .int) 13 1 from Or.inr (Or.inl ⟨rfl, rfl, by decide +kernel⟩)) ?_
  refine bz_ac (show bz_ok RX11 cX11_refusal 14 (bz_aload 0 1) from bz_o_aload_n (k := 0) (i := 0) (by decide +kernel) rfl) ?_
  refine bz_ac (show bz_cok bz_P l RX11 cX11_refusal 7 166 15 mX11_goCrises 1 11 from bz_cV' (own := RX11) (idx := 243) (ci := 10) (N := 42) (T := TX11) (n := 0) bp_X11_goCrises bq_X11_goCrises (by decide +kernel) (bz_tb 884 (by decide +kernel) (by decide +kernel)) (bz_tb 886 (by decide +kernel) (by decide +kernel)) (bz_tb 20 (by decide +kernel) (by decide +kernel)) rfl rfl (by decide) (by decide)) ?_
  refine bz_ac (show bz_ok RX11 cX11_refusal 18 (bz_aload 0 1) from bz_o_aload_n (k := 0) (i := 0) (by decide +kernel) rfl) ?_
  refine bz_ac (show bz_ok RX11 cX11_refusal 19 (bz_getI 10 27) from bz_o_getI (ci := 10) (k := 27) (idx := 220) (C := RX11) (T := TX11) (N := 42) rfl bh_10 rfl rfl (bz_tb 699 (by decide +kernel) (by decide +kernel)) (Or.inl rfl) (by decide +kernel)) ?_
  refine bz_ac (show bz_ok RX11 cX11_refusal 22 (bz_if_lt 30) from bz_o_if_lt (off := 8) (t := 30) (by decide +kernel) (by decide)) ?_
  refine bz_ac (show bz_ok RX11 cX11_refusal 25 (bz_push (.int (-3)) 2) from bz_o_bipush (n := (-3)) (v := (-3)) (by decide +kernel) (by decide)) ?_
  refine bz_ac (show bz_ok RX11 cX11_refusal 27 (bz_goto 32) from bz_o_goto (off := 5) (t := 32) (by decide +kernel) (by decide)) ?_
  refine bz_ac (show bz_ok RX11 cX11_refusal 30 (bz_push (.int (-6)) 2) from bz_o_bipush (n := (-6)) (v := (-6)) (by decide +kernel) (by decide)) ?_
  refine bz_ac (show bz_rok cX11_refusal (some .int) 32 1 from Or.inr (Or.inl ⟨rfl, rfl, by decide +kernel⟩)) ?_
  exact bz_an
set_option maxRecDepth 100000 in
theorem bo_X11_judge (l : Launch) : ∀ q ∈ bt_X11_judge, bz_rw bz_P l bm_X11_judge q := by
  refine bz_ac (show bz_ok RX11 cX11_judge 0 (bz_iload 1 1) from bz_o_iload_n (k := 1) (i := 1) (by decide +kernel) rfl) ?_
  refine bz_ac (show bz_ok RX11 cX11_judge 1 (bz_i2l) from bz_o_i2l (by decide +kernel)) ?_
  refine bz_ac (show bz_ok RX11 cX11_judge 2 (bz_push (.long 0) 1) from bz_o_lconst (n := 0) (v := 0) (by decide +kernel) (by decide)) ?_
  refine bz_ac (show bz_ok RX11 cX11_judge 3 (bz_push (.long 2) 3) from bz_o_ldc2 (own := RX11) (i := 73) (v := 2) (by decide +kernel) (bz_tb 808 (by decide +kernel) (by decide +kernel))) ?_
  refine bz_ac (show bz_cok bz_P l RX11 cX11_judge 8 186 6 mX11_in 3 0 from bz_cS' (own := RX11) (idx := 75) (n := 3) bp_X11_in bq_X11_in (by decide +kernel) (bz_tb 809 (by decide +kernel) (by decide +kernel)) (bz_tb 810 (by decide +kernel) (by decide +kernel)) rfl (by decide) (by decide)) ?_
  refine bz_ac (show bz_ok RX11 cX11_judge 9 (bz_if_ne 15) from bz_o_if_ne (off := 6) (t := 15) (by decide +kernel) (by decide)) ?_
  refine bz_ac (show bz_ok RX11 cX11_judge 12 (bz_push (.int (-2)) 2) from bz_o_bipush (n := (-2)) (v := (-2)) (by decide +kernel) (by decide)) ?_
  refine bz_ac (show bz_rok cX11_judge (some .int) 14 1 from Or.inr (Or.inl ⟨rfl, rfl, by decide +kernel⟩)) ?_
  refine bz_ac (show bz_ok RX11 cX11_judge 15 (bz_aload 0 1) from bz_o_aload_n (k := 0) (i := 0) (by decide +kernel) rfl) ?_
  refine bz_ac (show bz_ok RX11 cX11_judge 16 (bz_aload 0 1) from bz_o_aload_n (k := 0) (i := 0) (by decide +kernel) rfl) ?_
  refine bz_ac (show bz_cok bz_P l RX11 cX11_judge 8 186 17 mX11_refusal 1 11 from bz_cV' (own := RX11) (idx := 246) (ci := 10) (N := 42) (T := TX11) (n := 0) bp_X11_refusal bq_X11_refusal (by decide +kernel) (bz_tb 875 (by decide +kernel) (by decide +kernel)) (bz_tb 877 (by decide +kernel) (by decide +kernel)) (bz_tb 18 (by decide +kernel) (by decide +kernel)) rfl rfl (by decide) (by decide)) ?_
  refine bz_ac (show bz_cok bz_P l RX11 cX11_judge 8 186 20 mX11_back 2 11 from bz_cV' (own := RX11) (idx := 249) (ci := 10) (N := 42) (T := TX11) (n := 1) bp_X11_back bq_X11_back (by decide +kernel) (bz_tb 937 (by decide +kernel) (by decide +kernel)) (bz_tb 939 (by decide +kernel) (by decide +kernel)) (bz_tb 29 (by decide +kernel) (by decide +kernel)) rfl rfl (by decide) (by decide)) ?_
  refine bz_ac (show bz_ok RX11 cX11_judge 23 (bz_istore 2 1) from bz_o_istore_n (k := 2) (i := 2) (by decide +kernel) rfl) ?_
  refine bz_ac (show bz_ok RX11 cX11_judge 24 (bz_iload 2 1) from bz_o_iload_n (k := 2) (i := 2) (by decide +kernel) rfl) ?_
  refine bz_ac (show bz_ok RX11 cX11_judge 25 (bz_push (.int (-5)) 2) from bz_o_bipush (n := (-5)) (v := (-5)) (by decide +kernel) (by decide)) ?_
  refine bz_ac (show bz_ok RX11 cX11_judge 27 (bz_ic_eq 41) from bz_o_ic_eq (off := 14) (t := 41) (by decide +kernel) (by decide)) ?_
  refine bz_ac (show bz_ok RX11 cX11_judge 30 (bz_iload 1 1) from bz_o_iload_n (k := 1) (i := 1) (by decide +kernel) rfl) ?_
  refine bz_ac (show bz_ok RX11 cX11_judge 31 (bz_push (.int 1) 1) from bz_o_iconst (n := 1) (v := 1) (by decide +kernel) (by decide)) ?_
  refine bz_ac (show bz_ok RX11 cX11_judge 32 (bz_ic_le 43) from bz_o_ic_le (off := 11) (t := 43) (by decide +kernel) (by decide)) ?_
  refine bz_ac (show bz_ok RX11 cX11_judge 35 (bz_iload 2 1) from bz_o_iload_n (k := 2) (i := 2) (by decide +kernel) rfl) ?_
  refine bz_ac (show bz_ok RX11 cX11_judge 36 (bz_push (.int (-3)) 2) from bz_o_bipush (n := (-3)) (v := (-3)) (by decide +kernel) (by decide)) ?_
  refine bz_ac (show bz_ok RX11 cX11_judge 38 (bz_ic_ne 43) from bz_o_ic_ne (off := 5) (t := 43) (by decide +kernel) (by decide)) ?_
  refine bz_ac (show bz_ok RX11 cX11_judge 41 (bz_iload 2 1) from bz_o_iload_n (k := 2) (i := 2) (by decide +kernel) rfl) ?_
  refine bz_ac (show bz_rok cX11_judge (some .int) 42 1 from Or.inr (Or.inl ⟨rfl, rfl, by decide +kernel⟩)) ?_
  refine bz_ac (show bz_ok RX11 cX11_judge 43 (bz_iload 1 1) from bz_o_iload_n (k := 1) (i := 1) (by decide +kernel) rfl) ?_
  refine bz_ac (show bz_ok RX11 cX11_judge 44 (bz_if_ne 54) from bz_o_if_ne (off := 10) (t := 54) (by decide +kernel) (by decide)) ?_
  refine bz_ac (show bz_ok RX11 cX11_judge 47 (bz_aload 0 1) from bz_o_aload_n (k := 0) (i := 0) (by decide +kernel) rfl) ?_
  refine bz_ac (show bz_ok RX11 cX11_judge 48 (bz_getI 10 27) from bz_o_getI (ci := 10) (k := 27) (idx := 220) (C := RX11) (T := TX11) (N := 42) rfl bh_10 rfl rfl (bz_tb 699 (by decide +kernel) (by decide +kernel)) (Or.inl rfl) (by decide +kernel)) ?_
  refine bz_ac (show bz_ok RX11 cX11_judge 51 (bz_goto 70) from bz_o_goto (off := 19) (t := 70) (by decide +kernel) (by decide)) ?_
  refine bz_ac (show bz_ok RX11 cX11_judge 54 (bz_iload 1 1) from bz_o_iload_n (k := 1) (i := 1) (by decide +kernel) rfl) ?_
  refine bz_ac (show bz_ok RX11 cX11_judge 55 (bz_push (.int 1) 1) from bz_o_iconst (n := 1) (v := 1) (by decide +kernel) (by decide)) ?_
  refine bz_ac (show bz_ok RX11 cX11_judge 56 (bz_ic_ne 66) from bz_o_ic_ne (off := 10) (t := 66) (by decide +kernel) (by decide)) ?_
  refine bz_ac (show bz_ok RX11 cX11_judge 59 (bz_aload 0 1) from bz_o_aload_n (k := 0) (i := 0) (by decide +kernel) rfl) ?_
  refine bz_ac (show bz_ok RX11 cX11_judge 60 (bz_getI 10 28) from bz_o_getI (ci := 10) (k := 28) (idx := 223) (C := RX11) (T := TX11) (N := 42) rfl bh_10 rfl rfl (bz_tb 700 (by decide +kernel) (by decide +kernel)) (Or.inl rfl) (by decide +kernel)) ?_
  refine bz_ac (show bz_ok RX11 cX11_judge 63 (bz_goto 70) from bz_o_goto (off := 7) (t := 70) (by decide +kernel) (by decide)) ?_
  refine bz_ac (show bz_ok RX11 cX11_judge 66 (bz_aload 0 1) from bz_o_aload_n (k := 0) (i := 0) (by decide +kernel) rfl) ?_
  refine bz_ac (show bz_ok RX11 cX11_judge 67 (bz_getI 10 23) from bz_o_getI (ci := 10) (k := 23) (idx := 199) (C := RX11) (T := TX11) (N := 42) rfl bh_10 rfl rfl (bz_tb 695 (by decide +kernel) (by decide +kernel)) (Or.inl rfl) (by decide +kernel)) ?_
  refine bz_ac (show bz_rok cX11_judge (some .int) 70 1 from Or.inr (Or.inl ⟨rfl, rfl, by decide +kernel⟩)) ?_
  exact bz_an
set_option maxRecDepth 100000 in
theorem bo_X11_behind (l : Launch) : ∀ q ∈ bt_X11_behind, bz_rw bz_P l bm_X11_behind q := by
  refine bz_ac (show bz_ok RX11 cX11_behind 0 (bz_iload 1 1) from bz_o_iload_n (k := 1) (i := 1) (by decide +kernel) rfl) ?_
  refine bz_ac (show bz_cok bz_P l RX11 cX11_behind 8 186 1 mX11_isBall 1 0 from bz_cS' (own := RX11) (idx := 98) (n := 1) bp_X11_isBall bq_X11_isBall (by decide +kernel) (bz_tb 805 (by decide +kernel) (by decide +kernel)) (bz_tb 806 (by decide +kernel) (by decide +kernel)) rfl (by decide) (by decide)) ?_
  refine bz_ac (show bz_ok RX11 cX11_behind 4 (bz_if_ne 9) from bz_o_if_ne (off := 5) (t := 9) (by decide +kernel) (by decide)) ?_
  refine bz_ac (show bz_ok RX11 cX11_behind 7 (bz_push (.int (-1)) 1) from bz_o_iconst (n := (-1)) (v := (-1)) (by decide +kernel) (by decide)) ?_
  refine bz_ac (show bz_rok cX11_behind (some .int) 8 1 from Or.inr (Or.inl ⟨rfl, rfl, by decide +kernel⟩)) ?_
  refine bz_ac (show bz_ok RX11 cX11_behind 9 (bz_aload 0 1) from bz_o_aload_n (k := 0) (i := 0) (by decide +kernel) rfl) ?_
  refine bz_ac (show bz_cok bz_P l RX11 cX11_behind 8 186 10 mX11_refusal 1 11 from bz_cV' (own := RX11) (idx := 246) (ci := 10) (N := 42) (T := TX11) (n := 0) bp_X11_refusal bq_X11_refusal (by decide +kernel) (bz_tb 875 (by decide +kernel) (by decide +kernel)) (bz_tb 877 (by decide +kernel) (by decide +kernel)) (bz_tb 18 (by decide +kernel) (by decide +kernel)) rfl rfl (by decide) (by decide)) ?_
  refine bz_ac (show bz_ok RX11 cX11_behind 13 (bz_istore 2 1) from bz_o_istore_n (k := 2) (i := 2) (by decide +kernel) rfl) ?_
  refine bz_ac (show bz_ok RX11 cX11_behind 14 (bz_aload 0 1) from bz_o_aload_n (k := 0) (i := 0) (by decide +kernel) rfl) ?_
  refine bz_ac (show bz_ok RX11 cX11_behind 15 (bz_iload 2 1) from bz_o_iload_n (k := 2) (i := 2) (by decide +kernel) rfl) ?_
  refine bz_ac (show bz_ok RX11 cX11_behind 16 (bz_push (.int (-6)) 2) from bz_o_bipush (n := (-6)) (v := (-6)) (by decide +kernel) (by decide)) ?_
  refine bz_ac (show bz_ok RX11 cX11_behind 18 (bz_ic_eq 25) from bz_o_ic_eq (off := 7) (t := 25) (by decide +kernel) (by decide)) ?_
  refine bz_ac (show bz_ok RX11 cX11_behind 21 (bz_iload 2 1) from bz_o_iload_n (k := 2) (i := 2) (by decide +kernel) rfl) ?_
  refine bz_ac (show bz_ok RX11 cX11_behind 22 (bz_goto 31) from bz_o_goto (off := 9) (t := 31) (by decide +kernel) (by decide)) ?_
  refine bz_ac (show bz_ok RX11 cX11_behind 25 (bz_aload 0 1) from bz_o_aload_n (k := 0) (i := 0) (by decide +kernel) rfl) ?_
  refine bz_ac (show bz_ok RX11 cX11_behind 26 (bz_getR 10 0) from bz_o_getR (ci := 10) (k := 0) (idx := 7) (C := RX11) (T := TX11) (N := 42) rfl bh_10 rfl rfl (bz_tb 672 (by decide +kernel) (by decide +kernel)) rfl (by decide +kernel)) ?_
  refine bz_ac (show bz_ok RX11 cX11_behind 29 (bz_iload 1 1) from bz_o_iload_n (k := 1) (i := 1) (by decide +kernel) rfl) ?_
  refine bz_ac (show bz_ok RX11 cX11_behind 30 (bz_iald) from bz_o_iald (by decide +kernel)) ?_
  refine bz_ac (show bz_cok bz_P l RX11 cX11_behind 8 186 31 mX11_back 2 11 from bz_cV' (own := RX11) (idx := 249) (ci := 10) (N := 42) (T := TX11) (n := 1) bp_X11_back bq_X11_back (by decide +kernel) (bz_tb 937 (by decide +kernel) (by decide +kernel)) (bz_tb 939 (by decide +kernel) (by decide +kernel)) (bz_tb 29 (by decide +kernel) (by decide +kernel)) rfl rfl (by decide) (by decide)) ?_
  refine bz_ac (show bz_rok cX11_behind (some .int) 34 1 from Or.inr (Or.inl ⟨rfl, rfl, by decide +kernel⟩)) ?_
  exact bz_an
set_option maxRecDepth 100000 in
theorem bo_X11_downMany (l : Launch) : ∀ q ∈ bt_X11_downMany, bz_rw bz_P l bm_X11_downMany q := by
  refine bz_ac (show bz_ok RX11 cX11_downMany 0 (bz_push (.int 0) 1) from bz_o_iconst (n := 0) (v := 0) (by decide +kernel) (by decide)) ?_
  refine bz_ac (show bz_ok RX11 cX11_downMany 1 (bz_istore 1 1) from bz_o_istore_n (k := 1) (i := 1) (by decide +kernel) rfl) ?_
  refine bz_ac (show bz_ok RX11 cX11_downMany 2 (bz_push (.int 0) 1) from bz_o_iconst (n := 0) (v := 0) (by decide +kernel) (by decide)) ?_
  refine bz_ac (show bz_ok RX11 cX11_downMany 3 (bz_istore 2 1) from bz_o_istore_n (k := 2) (i := 2) (by decide +kernel) rfl) ?_
  refine bz_ac (show bz_ok RX11 cX11_downMany 4 (bz_iload 2 1) from bz_o_iload_n (k := 2) (i := 2) (by decide +kernel) rfl) ?_
  refine bz_ac (show bz_ok RX11 cX11_downMany 5 (bz_push (.int 3) 1) from bz_o_iconst (n := 3) (v := 3) (by decide +kernel) (by decide)) ?_
  refine bz_ac (show bz_ok RX11 cX11_downMany 6 (bz_ic_ge 32) from bz_o_ic_ge (off := 26) (t := 32) (by decide +kernel) (by decide)) ?_
  refine bz_ac (show bz_ok RX11 cX11_downMany 9 (bz_iload 1 1) from bz_o_iload_n (k := 1) (i := 1) (by decide +kernel) rfl) ?_
  refine bz_ac (show bz_ok RX11 cX11_downMany 10 (bz_aload 0 1) from bz_o_aload_n (k := 0) (i := 0) (by decide +kernel) rfl) ?_
  refine bz_ac (show bz_ok RX11 cX11_downMany 11 (bz_getR 10 0) from bz_o_getR (ci := 10) (k := 0) (idx := 7) (C := RX11) (T := TX11) (N := 42) rfl bh_10 rfl rfl (bz_tb 672 (by decide +kernel) (by decide +kernel)) rfl (by decide +kernel)) ?_
  refine bz_ac (show bz_ok RX11 cX11_downMany 14 (bz_iload 2 1) from bz_o_iload_n (k := 2) (i := 2) (by decide +kernel) rfl) ?_
  refine bz_ac (show bz_ok RX11 cX11_downMany 15 (bz_iald) from bz_o_iald (by decide +kernel)) ?_
  refine bz_ac (show bz_ok RX11 cX11_downMany 16 (bz_if_ge 23) from bz_o_if_ge (off := 7) (t := 23) (by decide +kernel) (by decide)) ?_
  refine bz_ac (show bz_ok RX11 cX11_downMany 19 (bz_push (.int 1) 1) from bz_o_iconst (n := 1) (v := 1) (by decide +kernel) (by decide)) ?_
  refine bz_ac (show bz_ok RX11 cX11_downMany 20 (bz_goto 24) from bz_o_goto (off := 4) (t := 24) (by decide +kernel) (by decide)) ?_
  refine bz_ac (show bz_ok RX11 cX11_downMany 23 (bz_push (.int 0) 1) from bz_o_iconst (n := 0) (v := 0) (by decide +kernel) (by decide)) ?_
  refine bz_ac (show bz_ok RX11 cX11_downMany 24 (bz_iadd) from bz_o_iadd (by decide +kernel)) ?_
  refine bz_ac (show bz_ok RX11 cX11_downMany 25 (bz_istore 1 1) from bz_o_istore_n (k := 1) (i := 1) (by decide +kernel) rfl) ?_
  refine bz_ac (show bz_ok RX11 cX11_downMany 26 (bz_iinc 2 1) from bz_o_iinc (i := 2) (n := 1) (v := 1) (by decide +kernel) (by decide)) ?_
  refine bz_ac (show bz_ok RX11 cX11_downMany 29 (bz_goto 4) from bz_o_goto (off := (-25)) (t := 4) (by decide +kernel) (by decide)) ?_
  refine bz_ac (show bz_ok RX11 cX11_downMany 32 (bz_iload 1 1) from bz_o_iload_n (k := 1) (i := 1) (by decide +kernel) rfl) ?_
  refine bz_ac (show bz_rok cX11_downMany (some .int) 33 1 from Or.inr (Or.inl ⟨rfl, rfl, by decide +kernel⟩)) ?_
  exact bz_an
set_option maxRecDepth 100000 in
theorem bo_X11_table (l : Launch) : ∀ q ∈ bt_X11_table, bz_rw bz_P l bm_X11_table q := by
  refine bz_ac (show bz_ok RX11 cX11_table 0 (bz_iload 1 1) from bz_o_iload_n (k := 1) (i := 1) (by decide +kernel) rfl) ?_
  refine bz_ac (show bz_ok RX11 cX11_table 1 (bz_i2l) from bz_o_i2l (by decide +kernel)) ?_
  refine bz_ac (show bz_ok RX11 cX11_table 2 (bz_push (.long 0) 1) from bz_o_lconst (n := 0) (v := 0) (by decide +kernel) (by decide)) ?_
  refine bz_ac (show bz_ok RX11 cX11_table 3 (bz_push (.long 3) 3) from bz_o_ldc2 (own := RX11) (i := 252) (v := 3) (by decide +kernel) (bz_tb 949 (by decide +kernel) (by decide +kernel))) ?_
  refine bz_ac (show bz_cok bz_P l RX11 cX11_table 8 186 6 mX11_in 3 0 from bz_cS' (own := RX11) (idx := 75) (n := 3) bp_X11_in bq_X11_in (by decide +kernel) (bz_tb 809 (by decide +kernel) (by decide +kernel)) (bz_tb 810 (by decide +kernel) (by decide +kernel)) rfl (by decide) (by decide)) ?_
  refine bz_ac (show bz_ok RX11 cX11_table 9 (bz_if_ne 15) from bz_o_if_ne (off := 6) (t := 15) (by decide +kernel) (by decide)) ?_
  refine bz_ac (show bz_ok RX11 cX11_table 12 (bz_push (.int (-2)) 2) from bz_o_bipush (n := (-2)) (v := (-2)) (by decide +kernel) (by decide)) ?_
  refine bz_ac (show bz_rok cX11_table (some .int) 14 1 from Or.inr (Or.inl ⟨rfl, rfl, by decide +kernel⟩)) ?_
  refine bz_ac (show bz_ok RX11 cX11_table 15 (bz_aload 0 1) from bz_o_aload_n (k := 0) (i := 0) (by decide +kernel) rfl) ?_
  refine bz_ac (show bz_cok bz_P l RX11 cX11_table 8 186 16 mX11_refusal 1 11 from bz_cV' (own := RX11) (idx := 246) (ci := 10) (N := 42) (T := TX11) (n := 0) bp_X11_refusal bq_X11_refusal (by decide +kernel) (bz_tb 875 (by decide +kernel) (by decide +kernel)) (bz_tb 877 (by decide +kernel) (by decide +kernel)) (bz_tb 18 (by decide +kernel) (by decide +kernel)) rfl rfl (by decide) (by decide)) ?_
  refine bz_ac (show bz_ok RX11 cX11_table 19 (bz_istore 2 1) from bz_o_istore_n (k := 2) (i := 2) (by decide +kernel) rfl) ?_
  refine bz_ac (show bz_ok RX11 cX11_table 20 (bz_aload 0 1) from bz_o_aload_n (k := 0) (i := 0) (by decide +kernel) rfl) ?_
  refine bz_ac (show bz_ok RX11 cX11_table 21 (bz_iload 2 1) from bz_o_iload_n (k := 2) (i := 2) (by decide +kernel) rfl) ?_
  refine bz_ac (show bz_ok RX11 cX11_table 22 (bz_push (.int (-6)) 2) from bz_o_bipush (n := (-6)) (v := (-6)) (by decide +kernel) (by decide)) ?_
  refine bz_ac (show bz_ok RX11 cX11_table 24 (bz_ic_eq 31) from bz_o_ic_eq (off := 7) (t := 31) (by decide +kernel) (by decide)) ?_
  refine bz_ac (show bz_ok RX11 cX11_table 27 (bz_iload 2 1) from bz_o_iload_n (k := 2) (i := 2) (by decide +kernel) rfl) ?_
  refine bz_ac (show bz_ok RX11 cX11_table 28 (bz_goto 70) from bz_o_goto (off := 42) (t := 70) (by decide +kernel) (by decide)) ?_
  refine bz_ac (show bz_ok RX11 cX11_table 31 (bz_iload 1 1) from bz_o_iload_n (k := 1) (i := 1) (by decide +kernel) rfl) ?_
  refine bz_ac (show bz_ok RX11 cX11_table 32 (bz_if_ne 42) from bz_o_if_ne (off := 10) (t := 42) (by decide +kernel) (by decide)) ?_
  refine bz_ac (show bz_ok RX11 cX11_table 35 (bz_aload 0 1) from bz_o_aload_n (k := 0) (i := 0) (by decide +kernel) rfl) ?_
  refine bz_ac (show bz_ok RX11 cX11_table 36 (bz_getI 10 1) from bz_o_getI (ci := 10) (k := 1) (idx := 109) (C := RX11) (T := TX11) (N := 42) rfl bh_10 rfl rfl (bz_tb 673 (by decide +kernel) (by decide +kernel)) (Or.inl rfl) (by decide +kernel)) ?_
  refine bz_ac (show bz_ok RX11 cX11_table 39 (bz_goto 70) from bz_o_goto (off := 31) (t := 70) (by decide +kernel) (by decide)) ?_
  refine bz_ac (show bz_ok RX11 cX11_table 42 (bz_iload 1 1) from bz_o_iload_n (k := 1) (i := 1) (by decide +kernel) rfl) ?_
  refine bz_ac (show bz_ok RX11 cX11_table 43 (bz_push (.int 1) 1) from bz_o_iconst (n := 1) (v := 1) (by decide +kernel) (by decide)) ?_
  refine bz_ac (show bz_ok RX11 cX11_table 44 (bz_ic_ne 54) from bz_o_ic_ne (off := 10) (t := 54) (by decide +kernel) (by decide)) ?_
  refine bz_ac (show bz_ok RX11 cX11_table 47 (bz_aload 0 1) from bz_o_aload_n (k := 0) (i := 0) (by decide +kernel) rfl) ?_
  refine bz_ac (show bz_ok RX11 cX11_table 48 (bz_getI 10 2) from bz_o_getI (ci := 10) (k := 2) (idx := 113) (C := RX11) (T := TX11) (N := 42) rfl bh_10 rfl rfl (bz_tb 674 (by decide +kernel) (by decide +kernel)) (Or.inl rfl) (by decide +kernel)) ?_
  refine bz_ac (show bz_ok RX11 cX11_table 51 (bz_goto 70) from bz_o_goto (off := 19) (t := 70) (by decide +kernel) (by decide)) ?_
  refine bz_ac (show bz_ok RX11 cX11_table 54 (bz_iload 1 1) from bz_o_iload_n (k := 1) (i := 1) (by decide +kernel) rfl) ?_
  refine bz_ac (show bz_ok RX11 cX11_table 55 (bz_push (.int 2) 1) from bz_o_iconst (n := 2) (v := 2) (by decide +kernel) (by decide)) ?_
  refine bz_ac (show bz_ok RX11 cX11_table 56 (bz_ic_ne 66) from bz_o_ic_ne (off := 10) (t := 66) (by decide +kernel) (by decide)) ?_
  refine bz_ac (show bz_ok RX11 cX11_table 59 (bz_aload 0 1) from bz_o_aload_n (k := 0) (i := 0) (by decide +kernel) rfl) ?_
  refine bz_ac (show bz_cok bz_P l RX11 cX11_table 8 186 60 mX11_downMany 1 11 from bz_cV' (own := RX11) (idx := 254) (ci := 10) (N := 42) (T := TX11) (n := 0) bp_X11_downMany bq_X11_downMany (by decide +kernel) (bz_tb 950 (by decide +kernel) (by decide +kernel)) (bz_tb 952 (by decide +kernel) (by decide +kernel)) (bz_tb 30 (by decide +kernel) (by decide +kernel)) rfl rfl (by decide) (by decide)) ?_
  refine bz_ac (show bz_ok RX11 cX11_table 63 (bz_goto 70) from bz_o_goto (off := 7) (t := 70) (by decide +kernel) (by decide)) ?_
  refine bz_ac (show bz_ok RX11 cX11_table 66 (bz_aload 0 1) from bz_o_aload_n (k := 0) (i := 0) (by decide +kernel) rfl) ?_
  refine bz_ac (show bz_ok RX11 cX11_table 67 (bz_getI 10 3) from bz_o_getI (ci := 10) (k := 3) (idx := 211) (C := RX11) (T := TX11) (N := 42) rfl bh_10 rfl rfl (bz_tb 675 (by decide +kernel) (by decide +kernel)) (Or.inl rfl) (by decide +kernel)) ?_
  refine bz_ac (show bz_cok bz_P l RX11 cX11_table 8 186 70 mX11_back 2 11 from bz_cV' (own := RX11) (idx := 249) (ci := 10) (N := 42) (T := TX11) (n := 1) bp_X11_back bq_X11_back (by decide +kernel) (bz_tb 937 (by decide +kernel) (by decide +kernel)) (bz_tb 939 (by decide +kernel) (by decide +kernel)) (bz_tb 29 (by decide +kernel) (by decide +kernel)) rfl rfl (by decide) (by decide)) ?_
  refine bz_ac (show bz_rok cX11_table (some .int) 73 1 from Or.inr (Or.inl ⟨rfl, rfl, by decide +kernel⟩)) ?_
  exact bz_an
set_option maxRecDepth 100000 in
theorem bo_X11_candour (l : Launch) : ∀ q ∈ bt_X11_candour, bz_rw bz_P l bm_X11_candour q := by
  refine bz_ac (show bz_ok RX11 cX11_candour 0 (bz_iload 1 1) from bz_o_iload_n (k := 1) (i := 1) (by decide +kernel) rfl) ?_
  refine bz_ac (show bz_ok RX11 cX11_candour 1 (bz_i2l) from bz_o_i2l (by decide +kernel)) ?_
  refine bz_ac (show bz_ok RX11 cX11_candour 2 (bz_push (.long 0) 1) from bz_o_lconst (n := 0) (v := 0) (by decide +kernel) (by decide)) ?_
  refine bz_ac (show bz_ok RX11 cX11_candour 3 (bz_push (.long 1) 1) from bz_o_lconst (n := 1) (v := 1) (by decide +kernel) (by decide)) ?_
  refine bz_ac (show bz_cok bz_P l RX11 cX11_candour 8 186 4 mX11_in 3 0 from bz_cS' (own := RX11) (idx := 75) (n := 3) bp_X11_in bq_X11_in (by decide +kernel) (bz_tb 809 (by decide +kernel) (by decide +kernel)) (bz_tb 810 (by decide +kernel) (by decide +kernel)) rfl (by decide) (by decide)) ?_
  refine bz_ac (show bz_ok RX11 cX11_candour 7 (bz_if_ne 13) from bz_o_if_ne (off := 6) (t := 13) (by decide +kernel) (by decide)) ?_
  refine bz_ac (show bz_ok RX11 cX11_candour 10 (bz_push (.int (-2)) 2) from bz_o_bipush (n := (-2)) (v := (-2)) (by decide +kernel) (by decide)) ?_
  refine bz_ac (show bz_rok cX11_candour (some .int) 12 1 from Or.inr (Or.inl ⟨rfl, rfl, by decide +kernel⟩)) ?_
  refine bz_ac (show bz_ok RX11 cX11_candour 13 (bz_aload 0 1) from bz_o_aload_n (k := 0) (i := 0) (by decide +kernel) rfl) ?_
  refine bz_ac (show bz_ok RX11 cX11_candour 14 (bz_aload 0 1) from bz_o_aload_n (k := 0) (i := 0) (by decide +kernel) rfl) ?_
  refine bz_ac (show bz_cok bz_P l RX11 cX11_candour 8 186 15 mX11_refusal 1 11 from bz_cV' (own := RX11) (idx := 246) (ci := 10) (N := 42) (T := TX11) (n := 0) bp_X11_refusal bq_X11_refusal (by decide +kernel) (bz_tb 875 (by decide +kernel) (by decide +kernel)) (bz_tb 877 (by decide +kernel) (by decide +kernel)) (bz_tb 18 (by decide +kernel) (by decide +kernel)) rfl rfl (by decide) (by decide)) ?_
  refine bz_ac (show bz_cok bz_P l RX11 cX11_candour 8 186 18 mX11_back 2 11 from bz_cV' (own := RX11) (idx := 249) (ci := 10) (N := 42) (T := TX11) (n := 1) bp_X11_back bq_X11_back (by decide +kernel) (bz_tb 937 (by decide +kernel) (by decide +kernel)) (bz_tb 939 (by decide +kernel) (by decide +kernel)) (bz_tb 29 (by decide +kernel) (by decide +kernel)) rfl rfl (by decide) (by decide)) ?_
  refine bz_ac (show bz_ok RX11 cX11_candour 21 (bz_istore 2 1) from bz_o_istore_n (k := 2) (i := 2) (by decide +kernel) rfl) ?_
  refine bz_ac (show bz_ok RX11 cX11_candour 22 (bz_iload 2 1) from bz_o_iload_n (k := 2) (i := 2) (by decide +kernel) rfl) ?_
  refine bz_ac (show bz_ok RX11 cX11_candour 23 (bz_push (.int (-6)) 2) from bz_o_bipush (n := (-6)) (v := (-6)) (by decide +kernel) (by decide)) ?_
  refine bz_ac (show bz_ok RX11 cX11_candour 25 (bz_ic_eq 32) from bz_o_ic_eq (off := 7) (t := 32) (by decide +kernel) (by decide)) ?_
  refine bz_ac (show bz_ok RX11 cX11_candour 28 (bz_iload 2 1) from bz_o_iload_n (k := 2) (i := 2) (by decide +kernel) rfl) ?_
  refine bz_ac (show bz_ok RX11 cX11_candour 29 (bz_goto 47) from bz_o_goto (off := 18) (t := 47) (by decide +kernel) (by decide)) ?_
  refine bz_ac (show bz_ok RX11 cX11_candour 32 (bz_iload 1 1) from bz_o_iload_n (k := 1) (i := 1) (by decide +kernel) rfl) ?_
  refine bz_ac (show bz_ok RX11 cX11_candour 33 (bz_if_ne 43) from bz_o_if_ne (off := 10) (t := 43) (by decide +kernel) (by decide)) ?_
  refine bz_ac (show bz_ok RX11 cX11_candour 36 (bz_aload 0 1) from bz_o_aload_n (k := 0) (i := 0) (by decide +kernel) rfl) ?_
  refine bz_ac (show bz_ok RX11 cX11_candour 37 (bz_getI 10 29) from bz_o_getI (ci := 10) (k := 29) (idx := 226) (C := RX11) (T := TX11) (N := 42) rfl bh_10 rfl rfl (bz_tb 701 (by decide +kernel) (by decide +kernel)) (Or.inl rfl) (by decide +kernel)) ?_
  refine bz_ac (show bz_ok RX11 cX11_candour 40 (bz_goto 47) from bz_o_goto (off := 7) (t := 47) (by decide +kernel) (by decide)) ?_
  refine bz_ac (show bz_ok RX11 cX11_candour 43 (bz_aload 0 1) from bz_o_aload_n (k := 0) (i := 0) (by decide +kernel) rfl) ?_
  refine bz_ac (show bz_ok RX11 cX11_candour 44 (bz_getI 10 24) from bz_o_getI (ci := 10) (k := 24) (idx := 202) (C := RX11) (T := TX11) (N := 42) rfl bh_10 rfl rfl (bz_tb 696 (by decide +kernel) (by decide +kernel)) (Or.inl rfl) (by decide +kernel)) ?_
  refine bz_ac (show bz_rok cX11_candour (some .int) 47 1 from Or.inr (Or.inl ⟨rfl, rfl, by decide +kernel⟩)) ?_
  exact bz_an
set_option maxRecDepth 100000 in
theorem bo_X11_done (l : Launch) : ∀ q ∈ bt_X11_done, bz_rw bz_P l bm_X11_done q := by
  refine bz_ac (show bz_ok RX11 cX11_done 0 (bz_aload 0 1) from bz_o_aload_n (k := 0) (i := 0) (by decide +kernel) rfl) ?_
  refine bz_ac (show bz_cok bz_P l RX11 cX11_done 8 186 1 mX11_refusal 1 11 from bz_cV' (own := RX11) (idx := 246) (ci := 10) (N := 42) (T := TX11) (n := 0) bp_X11_refusal bq_X11_refusal (by decide +kernel) (bz_tb 875 (by decide +kernel) (by decide +kernel)) (bz_tb 877 (by decide +kernel) (by decide +kernel)) (bz_tb 18 (by decide +kernel) (by decide +kernel)) rfl rfl (by decide) (by decide)) ?_
  refine bz_ac (show bz_ok RX11 cX11_done 4 (bz_istore 1 1) from bz_o_istore_n (k := 1) (i := 1) (by decide +kernel) rfl) ?_
  refine bz_ac (show bz_ok RX11 cX11_done 5 (bz_iload 1 1) from bz_o_iload_n (k := 1) (i := 1) (by decide +kernel) rfl) ?_
  refine bz_ac (show bz_ok RX11 cX11_done 6 (bz_push (.int (-6)) 2) from bz_o_bipush (n := (-6)) (v := (-6)) (by decide +kernel) (by decide)) ?_
  refine bz_ac (show bz_ok RX11 cX11_done 8 (bz_ic_eq 17) from bz_o_ic_eq (off := 9) (t := 17) (by decide +kernel) (by decide)) ?_
  refine bz_ac (show bz_ok RX11 cX11_done 11 (bz_aload 0 1) from bz_o_aload_n (k := 0) (i := 0) (by decide +kernel) rfl) ?_
  refine bz_ac (show bz_ok RX11 cX11_done 12 (bz_iload 1 1) from bz_o_iload_n (k := 1) (i := 1) (by decide +kernel) rfl) ?_
  refine bz_ac (show bz_cok bz_P l RX11 cX11_done 8 186 13 mX11_back 2 11 from bz_cV' (own := RX11) (idx := 249) (ci := 10) (N := 42) (T := TX11) (n := 1) bp_X11_back bq_X11_back (by decide +kernel) (bz_tb 937 (by decide +kernel) (by decide +kernel)) (bz_tb 939 (by decide +kernel) (by decide +kernel)) (bz_tb 29 (by decide +kernel) (by decide +kernel)) rfl rfl (by decide) (by decide)) ?_
  refine bz_ac (show bz_rok cX11_done (some .int) 16 1 from Or.inr (Or.inl ⟨rfl, rfl, by decide +kernel⟩)) ?_
  refine bz_ac (show bz_ok RX11 cX11_done 17 (bz_aload 0 1) from bz_o_aload_n (k := 0) (i := 0) (by decide +kernel) rfl) ?_
  refine bz_ac (show bz_ok RX11 cX11_done 18 (bz_push (.int 0) 1) from bz_o_iconst (n := 0) (v := 0) (by decide +kernel) (by decide)) ?_
  refine bz_ac (show bz_ok RX11 cX11_done 19 (bz_putI 10 8) from bz_o_putI (ci := 10) (k := 8) (idx := 120) (C := RX11) (T := TX11) (N := 42) rfl bh_10 rfl rfl (bz_tb 680 (by decide +kernel) (by decide +kernel)) tyX11 tyX11_ok nmX11 rfl rfl rfl (by decide +kernel)) ?_
  refine bz_ac (show bz_ok RX11 cX11_done 22 (bz_aload 0 1) from bz_o_aload_n (k := 0) (i := 0) (by decide +kernel) rfl) ?_
  refine bz_ac (show bz_ok RX11 cX11_done 23 (bz_getI 10 13) from bz_o_getI (ci := 10) (k := 13) (idx := 123) (C := RX11) (T := TX11) (N := 42) rfl bh_10 rfl rfl (bz_tb 685 (by decide +kernel) (by decide +kernel)) (Or.inl rfl) (by decide +kernel)) ?_
  refine bz_ac (show bz_rok cX11_done (some .int) 26 1 from Or.inr (Or.inl ⟨rfl, rfl, by decide +kernel⟩)) ?_
  exact bz_an
set_option maxRecDepth 100000 in
theorem bo_X11_stepsBy (l : Launch) : ∀ q ∈ bt_X11_stepsBy, bz_rw bz_P l bm_X11_stepsBy q := by
  refine bz_ac (show bz_ok RX11 cX11_stepsBy 0 (bz_aload 0 1) from bz_o_aload_n (k := 0) (i := 0) (by decide +kernel) rfl) ?_
  refine bz_ac (show bz_cok bz_P l RX11 cX11_stepsBy 4 96 1 mX11_keepNow 1 11 from bz_cV' (own := RX11) (idx := 236) (ci := 10) (N := 42) (T := TX11) (n := 0) bp_X11_keepNow bq_X11_keepNow (by decide +kernel) (bz_tb 879 (by decide +kernel) (by decide +kernel)) (bz_tb 881 (by decide +kernel) (by decide +kernel)) (bz_tb 19 (by decide +kernel) (by decide +kernel)) rfl rfl (by decide) (by decide)) ?_
  refine bz_ac (show bz_ok RX11 cX11_stepsBy 4 (bz_aload 0 1) from bz_o_aload_n (k := 0) (i := 0) (by decide +kernel) rfl) ?_
  refine bz_ac (show bz_ok RX11 cX11_stepsBy 5 (bz_iload 1 1) from bz_o_iload_n (k := 1) (i := 1) (by decide +kernel) rfl) ?_
  refine bz_ac (show bz_ok RX11 cX11_stepsBy 6 (bz_iload 4 2) from bz_o_iload (i := 4) (by decide +kernel)) ?_
  refine bz_ac (show bz_ok RX11 cX11_stepsBy 8 (bz_push (.int 9) 2) from bz_o_bipush (n := 9) (v := 9) (by decide +kernel) (by decide)) ?_
  refine bz_ac (show bz_cok bz_P l RX11 cX11_stepsBy 4 96 10 mX11_send 4 11 from bz_cV' (own := RX11) (idx := 195) (ci := 10) (N := 42) (T := TX11) (n := 3) bp_X11_send bq_X11_send (by decide +kernel) (bz_tb 900 (by decide +kernel) (by decide +kernel)) (bz_tb 902 (by decide +kernel) (by decide +kernel)) (bz_tb 24 (by decide +kernel) (by decide +kernel)) rfl rfl (by decide) (by decide)) ?_
  refine bz_ac (show bz_ok RX11 cX11_stepsBy 13 (bz_aload 0 1) from bz_o_aload_n (k := 0) (i := 0) (by decide +kernel) rfl) ?_
  refine bz_ac (show bz_ok RX11 cX11_stepsBy 14 (bz_getI 10 20) from bz_o_getI (ci := 10) (k := 20) (idx := 157) (C := RX11) (T := TX11) (N := 42) rfl bh_10 rfl rfl (bz_tb 692 (by decide +kernel) (by decide +kernel)) (Or.inl rfl) (by decide +kernel)) ?_
  refine bz_ac (show bz_ok RX11 cX11_stepsBy 17 (bz_iload 2 1) from bz_o_iload_n (k := 2) (i := 2) (by decide +kernel) rfl) ?_
  refine bz_ac (show bz_ok RX11 cX11_stepsBy 18 (bz_ic_ne 33) from bz_o_ic_ne (off := 15) (t := 33) (by decide +kernel) (by decide)) ?_
  refine bz_ac (show bz_ok RX11 cX11_stepsBy 21 (bz_aload 0 1) from bz_o_aload_n (k := 0) (i := 0) (by decide +kernel) rfl) ?_
  refine bz_ac (show bz_ok RX11 cX11_stepsBy 22 (bz_getI 10 19) from bz_o_getI (ci := 10) (k := 19) (idx := 163) (C := RX11) (T := TX11) (N := 42) rfl bh_10 rfl rfl (bz_tb 691 (by decide +kernel) (by decide +kernel)) (Or.inl rfl) (by decide +kernel)) ?_
  refine bz_ac (show bz_ok RX11 cX11_stepsBy 25 (bz_iload 3 1) from bz_o_iload_n (k := 3) (i := 3) (by decide +kernel) rfl) ?_
  refine bz_ac (show bz_ok RX11 cX11_stepsBy 26 (bz_ic_ne 33) from bz_o_ic_ne (off := 7) (t := 33) (by decide +kernel) (by decide)) ?_
  refine bz_ac (show bz_ok RX11 cX11_stepsBy 29 (bz_push (.int 1) 1) from bz_o_iconst (n := 1) (v := 1) (by decide +kernel) (by decide)) ?_
  refine bz_ac (show bz_ok RX11 cX11_stepsBy 30 (bz_goto 34) from bz_o_goto (off := 4) (t := 34) (by decide +kernel) (by decide)) ?_
  refine bz_ac (show bz_ok RX11 cX11_stepsBy 33 (bz_push (.int 0) 1) from bz_o_iconst (n := 0) (v := 0) (by decide +kernel) (by decide)) ?_
  refine bz_ac (show bz_ok RX11 cX11_stepsBy 34 (bz_istore 5 2) from bz_o_istore (i := 5) (by decide +kernel)) ?_
  refine bz_ac (show bz_ok RX11 cX11_stepsBy 36 (bz_aload 0 1) from bz_o_aload_n (k := 0) (i := 0) (by decide +kernel) rfl) ?_
  refine bz_ac (show bz_ok RX11 cX11_stepsBy 37 (bz_iload 5 2) from bz_o_iload (i := 5) (by decide +kernel)) ?_
  refine bz_ac (show bz_ok RX11 cX11_stepsBy 39 (bz_if_eq 49) from bz_o_if_eq (off := 10) (t := 49) (by decide +kernel) (by decide)) ?_
  refine bz_ac (show bz_ok RX11 cX11_stepsBy 42 (bz_aload 0 1) from bz_o_aload_n (k := 0) (i := 0) (by decide +kernel) rfl) ?_
  refine bz_ac (show bz_ok RX11 cX11_stepsBy 43 (bz_getI 10 21) from bz_o_getI (ci := 10) (k := 21) (idx := 169) (C := RX11) (T := TX11) (N := 42) rfl bh_10 rfl rfl (bz_tb 693 (by decide +kernel) (by decide +kernel)) (Or.inl rfl) (by decide +kernel)) ?_
  refine bz_ac (show bz_ok RX11 cX11_stepsBy 46 (bz_goto 51) from bz_o_goto (off := 5) (t := 51) (by decide +kernel) (by decide)) ?_
  refine bz_ac (show bz_ok RX11 cX11_stepsBy 49 (bz_push (.int (-6)) 2) from bz_o_bipush (n := (-6)) (v := (-6)) (by decide +kernel) (by decide)) ?_
  refine bz_ac (show bz_cok bz_P l RX11 cX11_stepsBy 4 96 51 mX11_back 2 11 from bz_cV' (own := RX11) (idx := 249) (ci := 10) (N := 42) (T := TX11) (n := 1) bp_X11_back bq_X11_back (by decide +kernel) (bz_tb 937 (by decide +kernel) (by decide +kernel)) (bz_tb 939 (by decide +kernel) (by decide +kernel)) (bz_tb 29 (by decide +kernel) (by decide +kernel)) rfl rfl (by decide) (by decide)) ?_
  refine bz_ac (show bz_rok cX11_stepsBy (some .int) 54 1 from Or.inr (Or.inl ⟨rfl, rfl, by decide +kernel⟩)) ?_
  exact bz_an
set_option maxRecDepth 100000 in
theorem bo_X11_hint (l : Launch) : ∀ q ∈ bt_X11_hint, bz_rw bz_P l bm_X11_hint q := by
  refine bz_ac (show bz_ok RX11 cX11_hint 0 (bz_iload 1 1) from bz_o_iload_n (k := 1) (i := 1) (by decide +kernel) rfl) ?_
  refine bz_ac (show bz_cok bz_P l RX11 cX11_hint 5 121 1 mX11_isBall 1 0 from bz_cS' (own := RX11) (idx := 98) (n := 1) bp_X11_isBall bq_X11_isBall (by decide +kernel) (bz_tb 805 (by decide +kernel) (by decide +kernel)) (bz_tb 806 (by decide +kernel) (by decide +kernel)) rfl (by decide) (by decide)) ?_
  refine bz_ac (show bz_ok RX11 cX11_hint 4 (bz_if_eq 19) from bz_o_if_eq (off := 15) (t := 19) (by decide +kernel) (by decide)) ?_
  refine bz_ac (show bz_ok RX11 cX11_hint 7 (bz_iload 2 1) from bz_o_iload_n (k := 2) (i := 2) (by decide +kernel) rfl) ?_
  refine bz_ac (show bz_cok bz_P l RX11 cX11_hint 5 121 8 mX11_isBall 1 0 from bz_cS' (own := RX11) (idx := 98) (n := 1) bp_X11_isBall bq_X11_isBall (by decide +kernel) (bz_tb 805 (by decide +kernel) (by decide +kernel)) (bz_tb 806 (by decide +kernel) (by decide +kernel)) rfl (by decide) (by decide)) ?_
  refine bz_ac (show bz_ok RX11 cX11_hint 11 (bz_if_eq 19) from bz_o_if_eq (off := 8) (t := 19) (by decide +kernel) (by decide)) ?_
  refine bz_ac (show bz_ok RX11 cX11_hint 14 (bz_iload 1 1) from bz_o_iload_n (k := 1) (i := 1) (by decide +kernel) rfl) ?_
  refine bz_ac (show bz_ok RX11 cX11_hint 15 (bz_iload 2 1) from bz_o_iload_n (k := 2) (i := 2) (by decide +kernel) rfl) ?_
  refine bz_ac (show bz_ok RX11 cX11_hint 16 (bz_ic_ne 21) from bz_o_ic_ne (off := 5) (t := 21) (by decide +kernel) (by decide)) ?_
  refine bz_ac (show bz_ok RX11 cX11_hint 19 (bz_push (.int (-1)) 1) from bz_o_iconst (n := (-1)) (v := (-1)) (by decide +kernel) (by decide)) ?_
  refine bz_ac (show bz_rok cX11_hint (some .int) 20 1 from Or.inr (Or.inl ⟨rfl, rfl, by decide +kernel⟩)) ?_
  refine bz_ac (show bz_ok RX11 cX11_hint 21 (bz_iload 3 1) from bz_o_iload_n (k := 3) (i := 3) (by decide +kernel) rfl) ?_
  refine bz_ac (show bz_ok RX11 cX11_hint 22 (bz_i2l) from bz_o_i2l (by decide +kernel)) ?_
  refine bz_ac (show bz_ok RX11 cX11_hint 23 (bz_push (.long 0) 1) from bz_o_lconst (n := 0) (v := 0) (by decide +kernel) (by decide)) ?_
  refine bz_ac (show bz_ok RX11 cX11_hint 24 (bz_push (.long 4) 3) from bz_o_ldc2 (own := RX11) (i := 91) (v := 4) (by decide +kernel) (bz_tb 914 (by decide +kernel) (by decide +kernel))) ?_
  refine bz_ac (show bz_cok bz_P l RX11 cX11_hint 5 121 27 mX11_in 3 0 from bz_cS' (own := RX11) (idx := 75) (n := 3) bp_X11_in bq_X11_in (by decide +kernel) (bz_tb 809 (by decide +kernel) (by decide +kernel)) (bz_tb 810 (by decide +kernel) (by decide +kernel)) rfl (by decide) (by decide)) ?_
  refine bz_ac (show bz_ok RX11 cX11_hint 30 (bz_if_eq 44) from bz_o_if_eq (off := 14) (t := 44) (by decide +kernel) (by decide)) ?_
  refine bz_ac (show bz_ok RX11 cX11_hint 33 (bz_iload 4 2) from bz_o_iload (i := 4) (by decide +kernel)) ?_
  refine bz_ac (show bz_ok RX11 cX11_hint 35 (bz_i2l) from bz_o_i2l (by decide +kernel)) ?_
  refine bz_ac (show bz_ok RX11 cX11_hint 36 (bz_push (.long 0) 1) from bz_o_lconst (n := 0) (v := 0) (by decide +kernel) (by decide)) ?_
  refine bz_ac (show bz_ok RX11 cX11_hint 37 (bz_push (.long 1) 1) from bz_o_lconst (n := 1) (v := 1) (by decide +kernel) (by decide)) ?_
  refine bz_ac (show bz_cok bz_P l RX11 cX11_hint 5 121 38 mX11_in 3 0 from bz_cS' (own := RX11) (idx := 75) (n := 3) bp_X11_in bq_X11_in (by decide +kernel) (bz_tb 809 (by decide +kernel) (by decide +kernel)) (bz_tb 810 (by decide +kernel) (by decide +kernel)) rfl (by decide) (by decide)) ?_
  refine bz_ac (show bz_ok RX11 cX11_hint 41 (bz_if_ne 47) from bz_o_if_ne (off := 6) (t := 47) (by decide +kernel) (by decide)) ?_
  refine bz_ac (show bz_ok RX11 cX11_hint 44 (bz_push (.int (-2)) 2) from bz_o_bipush (n := (-2)) (v := (-2)) (by decide +kernel) (by decide)) ?_
  refine bz_ac (show bz_rok cX11_hint (some .int) 46 1 from Or.inr (Or.inl ⟨rfl, rfl, by decide +kernel⟩)) ?_
  refine bz_ac (show bz_ok RX11 cX11_hint 47 (bz_push (.int (-6)) 2) from bz_o_bipush (n := (-6)) (v := (-6)) (by decide +kernel) (by decide)) ?_
  refine bz_ac (show bz_ok RX11 cX11_hint 49 (bz_istore 5 2) from bz_o_istore (i := 5) (by decide +kernel)) ?_
  refine bz_ac (show bz_ok RX11 cX11_hint 51 (bz_push (.int (-6)) 2) from bz_o_bipush (n := (-6)) (v := (-6)) (by decide +kernel) (by decide)) ?_
  refine bz_ac (show bz_ok RX11 cX11_hint 53 (bz_istore 6 2) from bz_o_istore (i := 6) (by decide +kernel)) ?_
  refine bz_ac (show bz_ok RX11 cX11_hint 55 (bz_push (.int 7) 2) from bz_o_bipush (n := 7) (v := 7) (by decide +kernel) (by decide)) ?_
  refine bz_ac (show bz_ok RX11 cX11_hint 57 (bz_istore 7 2) from bz_o_istore (i := 7) (by decide +kernel)) ?_
  refine bz_ac (show bz_ok RX11 cX11_hint 59 (bz_iload 7 2) from bz_o_iload (i := 7) (by decide +kernel)) ?_
  refine bz_ac (show bz_ok RX11 cX11_hint 61 (bz_if_lt 142) from bz_o_if_lt (off := 81) (t := 142) (by decide +kernel) (by decide)) ?_
  refine bz_ac (show bz_ok RX11 cX11_hint 64 (bz_aload 0 1) from bz_o_aload_n (k := 0) (i := 0) (by decide +kernel) rfl) ?_
  refine bz_ac (show bz_ok RX11 cX11_hint 65 (bz_getR 10 0) from bz_o_getR (ci := 10) (k := 0) (idx := 7) (C := RX11) (T := TX11) (N := 42) rfl bh_10 rfl rfl (bz_tb 672 (by decide +kernel) (by decide +kernel)) rfl (by decide +kernel)) ?_
  refine bz_ac (show bz_ok RX11 cX11_hint 68 (bz_iload 1 1) from bz_o_iload_n (k := 1) (i := 1) (by decide +kernel) rfl) ?_
  refine bz_ac (show bz_ok RX11 cX11_hint 69 (bz_iald) from bz_o_iald (by decide +kernel)) ?_
  refine bz_ac (show bz_ok RX11 cX11_hint 70 (bz_if_lt 142) from bz_o_if_lt (off := 72) (t := 142) (by decide +kernel) (by decide)) ?_
  refine bz_ac (show bz_ok RX11 cX11_hint 73 (bz_aload 0 1) from bz_o_aload_n (k := 0) (i := 0) (by decide +kernel) rfl) ?_
  refine bz_ac (show bz_ok RX11 cX11_hint 74 (bz_iload 1 1) from bz_o_iload_n (k := 1) (i := 1) (by decide +kernel) rfl) ?_
  refine bz_ac (show bz_ok RX11 cX11_hint 75 (bz_iload 2 1) from bz_o_iload_n (k := 2) (i := 2) (by decide +kernel) rfl) ?_
  refine bz_ac (show bz_ok RX11 cX11_hint 76 (bz_iload 3 1) from bz_o_iload_n (k := 3) (i := 3) (by decide +kernel) rfl) ?_
  refine bz_ac (show bz_ok RX11 cX11_hint 77 (bz_iload 7 2) from bz_o_iload (i := 7) (by decide +kernel)) ?_
  refine bz_ac (show bz_cok bz_P l RX11 cX11_hint 5 121 79 mX11_stepsBy 5 11 from bz_cV' (own := RX11) (idx := 257) (ci := 10) (N := 42) (T := TX11) (n := 4) bp_X11_stepsBy bq_X11_stepsBy (by decide +kernel) (bz_tb 966 (by decide +kernel) (by decide +kernel)) (bz_tb 968 (by decide +kernel) (by decide +kernel)) (bz_tb 31 (by decide +kernel) (by decide +kernel)) rfl rfl (by decide) (by decide)) ?_
  refine bz_ac (show bz_ok RX11 cX11_hint 82 (bz_istore 8 2) from bz_o_istore (i := 8) (by decide +kernel)) ?_
  refine bz_ac (show bz_ok RX11 cX11_hint 84 (bz_iload 8 2) from bz_o_iload (i := 8) (by decide +kernel)) ?_
  refine bz_ac (show bz_ok RX11 cX11_hint 86 (bz_if_lt 105) from bz_o_if_lt (off := 19) (t := 105) (by decide +kernel) (by decide)) ?_
  refine bz_ac (show bz_ok RX11 cX11_hint 89 (bz_iload 5 2) from bz_o_iload (i := 5) (by decide +kernel)) ?_
  refine bz_ac (show bz_ok RX11 cX11_hint 91 (bz_if_lt 101) from bz_o_if_lt (off := 10) (t := 101) (by decide +kernel) (by decide)) ?_
  refine bz_ac (show bz_ok RX11 cX11_hint 94 (bz_iload 8 2) from bz_o_iload (i := 8) (by decide +kernel)) ?_
  refine bz_ac (show bz_ok RX11 cX11_hint 96 (bz_iload 5 2) from bz_o_iload (i := 5) (by decide +kernel)) ?_
  refine bz_ac (show bz_ok RX11 cX11_hint 98 (bz_ic_gt 105) from bz_o_ic_gt (off := 7) (t := 105) (by decide +kernel) (by decide)) ?_
  refine bz_ac (show bz_ok RX11 cX11_hint 101 (bz_push (.int 1) 1) from bz_o_iconst (n := 1) (v := 1) (by decide +kernel) (by decide)) ?_
  refine bz_ac (show bz_ok RX11 cX11_hint 102 (bz_goto 106) from bz_o_goto (off := 4) (t := 106) (by decide +kernel) (by decide)) ?_
  refine bz_ac (show bz_ok RX11 cX11_hint 105 (bz_push (.int 0) 1) from bz_o_iconst (n := 0) (v := 0) (by decide +kernel) (by decide)) ?_
  refine bz_ac (show bz_ok RX11 cX11_hint 106 (bz_istore 9 2) from bz_o_istore (i := 9) (by decide +kernel)) ?_
  refine bz_ac (show bz_ok RX11 cX11_hint 108 (bz_iload 9 2) from bz_o_iload (i := 9) (by decide +kernel)) ?_
  refine bz_ac (show bz_ok RX11 cX11_hint 110 (bz_if_eq 118) from bz_o_if_eq (off := 8) (t := 118) (by decide +kernel) (by decide)) ?_
  refine bz_ac (show bz_ok RX11 cX11_hint 113 (bz_iload 7 2) from bz_o_iload (i := 7) (by decide +kernel)) ?_
  refine bz_ac (show bz_ok RX11 cX11_hint 115 (bz_goto 120) from bz_o_goto (off := 5) (t := 120) (by decide +kernel) (by decide)) ?_
  refine bz_ac (show bz_ok RX11 cX11_hint 118 (bz_iload 6 2) from bz_o_iload (i := 6) (by decide +kernel)) ?_
  refine bz_ac (show bz_ok RX11 cX11_hint 120 (bz_istore 6 2) from bz_o_istore (i := 6) (by decide +kernel)) ?_
  refine bz_ac (show bz_ok RX11 cX11_hint 122 (bz_iload 9 2) from bz_o_iload (i := 9) (by decide +kernel)) ?_
  refine bz_ac (show bz_ok RX11 cX11_hint 124 (bz_if_eq 132) from bz_o_if_eq (off := 8) (t := 132) (by decide +kernel) (by decide)) ?_
  refine bz_ac (show bz_ok RX11 cX11_hint 127 (bz_iload 8 2) from bz_o_iload (i := 8) (by decide +kernel)) ?_
  refine bz_ac (show bz_ok RX11 cX11_hint 129 (bz_goto 134) from bz_o_goto (off := 5) (t := 134) (by decide +kernel) (by decide)) ?_
  refine bz_ac (show bz_ok RX11 cX11_hint 132 (bz_iload 5 2) from bz_o_iload (i := 5) (by decide +kernel)) ?_
  refine bz_ac (show bz_ok RX11 cX11_hint 134 (bz_istore 5 2) from bz_o_istore (i := 5) (by decide +kernel)) ?_
  refine bz_ac (show bz_ok RX11 cX11_hint 136 (bz_iinc 7 (-1)) from bz_o_iinc (i := 7) (n := (-1)) (v := (-1)) (by decide +kernel) (by decide)) ?_
  refine bz_ac (show bz_ok RX11 cX11_hint 139 (bz_goto 59) from bz_o_goto (off := (-80)) (t := 59) (by decide +kernel) (by decide)) ?_
  refine bz_ac (show bz_ok RX11 cX11_hint 142 (bz_iload 4 2) from bz_o_iload (i := 4) (by decide +kernel)) ?_
  refine bz_ac (show bz_ok RX11 cX11_hint 144 (bz_if_ne 152) from bz_o_if_ne (off := 8) (t := 152) (by decide +kernel) (by decide)) ?_
  refine bz_ac (show bz_ok RX11 cX11_hint 147 (bz_iload 5 2) from bz_o_iload (i := 5) (by decide +kernel)) ?_
  refine bz_ac (show bz_ok RX11 cX11_hint 149 (bz_goto 154) from bz_o_goto (off := 5) (t := 154) (by decide +kernel) (by decide)) ?_
  refine bz_ac (show bz_ok RX11 cX11_hint 152 (bz_iload 6 2) from bz_o_iload (i := 6) (by decide +kernel)) ?_
  refine bz_ac (show bz_rok cX11_hint (some .int) 154 1 from Or.inr (Or.inl ⟨rfl, rfl, by decide +kernel⟩)) ?_
  exact bz_an
set_option maxRecDepth 100000 in
theorem bo_X11_next (l : Launch) : ∀ q ∈ bt_X11_next, bz_rw bz_P l bm_X11_next q := by
  refine bz_ac (show bz_ok RX11 cX11_next 0 (bz_iload 0 1) from bz_o_iload_n (k := 0) (i := 0) (by decide +kernel) rfl) ?_
  refine bz_ac (show bz_ok RX11 cX11_next 1 (bz_push (.int 10) 2) from bz_o_bipush (n := 10) (v := 10) (by decide +kernel) (by decide)) ?_
  refine bz_ac (show bz_ok RX11 cX11_next 3 (bz_idiv) from bz_o_idiv (by decide +kernel)) ?_
  refine bz_ac (show bz_ok RX11 cX11_next 4 (bz_iload 0 1) from bz_o_iload_n (k := 0) (i := 0) (by decide +kernel) rfl) ?_
  refine bz_ac (show bz_ok RX11 cX11_next 5 (bz_push (.int 10) 2) from bz_o_bipush (n := 10) (v := 10) (by decide +kernel) (by decide)) ?_
  refine bz_ac (show bz_ok RX11 cX11_next 7 (bz_irem) from bz_o_irem (by decide +kernel)) ?_
  refine bz_ac (show bz_cok bz_P l RX11 cX11_next 2 49 8 mX11_turned 2 0 from bz_cS' (own := RX11) (idx := 178) (n := 2) bp_X11_turned bq_X11_turned (by decide +kernel) (bz_tb 908 (by decide +kernel) (by decide +kernel)) (bz_tb 909 (by decide +kernel) (by decide +kernel)) rfl (by decide) (by decide)) ?_
  refine bz_ac (show bz_ok RX11 cX11_next 11 (bz_istore 1 1) from bz_o_istore_n (k := 1) (i := 1) (by decide +kernel) rfl) ?_
  refine bz_ac (show bz_ok RX11 cX11_next 12 (bz_push (.int 10) 2) from bz_o_bipush (n := 10) (v := 10) (by decide +kernel) (by decide)) ?_
  refine bz_ac (show bz_ok RX11 cX11_next 14 (bz_iload 0 1) from bz_o_iload_n (k := 0) (i := 0) (by decide +kernel) rfl) ?_
  refine bz_ac (show bz_ok RX11 cX11_next 15 (bz_push (.int 10) 2) from bz_o_bipush (n := 10) (v := 10) (by decide +kernel) (by decide)) ?_
  refine bz_ac (show bz_ok RX11 cX11_next 17 (bz_idiv) from bz_o_idiv (by decide +kernel)) ?_
  refine bz_ac (show bz_ok RX11 cX11_next 18 (bz_iload 1 1) from bz_o_iload_n (k := 1) (i := 1) (by decide +kernel) rfl) ?_
  refine bz_ac (show bz_cok bz_P l RX11 cX11_next 2 49 19 mX11_ahead 2 0 from bz_cS' (own := RX11) (idx := 181) (n := 2) bp_X11_ahead bq_X11_ahead (by decide +kernel) (bz_tb 919 (by decide +kernel) (by decide +kernel)) (bz_tb 920 (by decide +kernel) (by decide +kernel)) rfl (by decide) (by decide)) ?_
  refine bz_ac (show bz_ok RX11 cX11_next 22 (bz_imul) from bz_o_imul (by decide +kernel)) ?_
  refine bz_ac (show bz_ok RX11 cX11_next 23 (bz_iload 1 1) from bz_o_iload_n (k := 1) (i := 1) (by decide +kernel) rfl) ?_
  refine bz_ac (show bz_ok RX11 cX11_next 24 (bz_iadd) from bz_o_iadd (by decide +kernel)) ?_
  refine bz_ac (show bz_rok cX11_next (some .int) 25 1 from Or.inr (Or.inl ⟨rfl, rfl, by decide +kernel⟩)) ?_
  exact bz_an
set_option maxRecDepth 100000 in
theorem bo_X11_behindSteps (l : Launch) : ∀ q ∈ bt_X11_behindSteps, bz_rw bz_P l bm_X11_behindSteps q := by
  refine bz_ac (show bz_ok RX11 cX11_behindSteps 0 (bz_iload 0 1) from bz_o_iload_n (k := 0) (i := 0) (by decide +kernel) rfl) ?_
  refine bz_ac (show bz_ok RX11 cX11_behindSteps 1 (bz_istore 2 1) from bz_o_istore_n (k := 2) (i := 2) (by decide +kernel) rfl) ?_
  refine bz_ac (show bz_ok RX11 cX11_behindSteps 2 (bz_push (.int 0) 1) from bz_o_iconst (n := 0) (v := 0) (by decide +kernel) (by decide)) ?_
  refine bz_ac (show bz_ok RX11 cX11_behindSteps 3 (bz_istore 3 1) from bz_o_istore_n (k := 3) (i := 3) (by decide +kernel) rfl) ?_
  refine bz_ac (show bz_ok RX11 cX11_behindSteps 4 (bz_iload 3 1) from bz_o_iload_n (k := 3) (i := 3) (by decide +kernel) rfl) ?_
  refine bz_ac (show bz_ok RX11 cX11_behindSteps 5 (bz_iload 1 1) from bz_o_iload_n (k := 1) (i := 1) (by decide +kernel) rfl) ?_
  refine bz_ac (show bz_ok RX11 cX11_behindSteps 6 (bz_ic_ge 20) from bz_o_ic_ge (off := 14) (t := 20) (by decide +kernel) (by decide)) ?_
  refine bz_ac (show bz_ok RX11 cX11_behindSteps 9 (bz_iload 2 1) from bz_o_iload_n (k := 2) (i := 2) (by decide +kernel) rfl) ?_
  refine bz_ac (show bz_cok bz_P l RX11 cX11_behindSteps 3 70 10 mX11_next 1 0 from bz_cS' (own := RX11) (idx := 261) (n := 1) bp_X11_next bq_X11_next (by decide +kernel) (bz_tb 979 (by decide +kernel) (by decide +kernel)) (bz_tb 980 (by decide +kernel) (by decide +kernel)) rfl (by decide) (by decide)) ?_
  refine bz_ac (show bz_ok RX11 cX11_behindSteps 13 (bz_istore 2 1) from bz_o_istore_n (k := 2) (i := 2) (by decide +kernel) rfl) ?_
  refine bz_ac (show bz_ok RX11 cX11_behindSteps 14 (bz_iinc 3 1) from bz_o_iinc (i := 3) (n := 1) (v := 1) (by decide +kernel) (by decide)) ?_
  refine bz_ac (show bz_ok RX11 cX11_behindSteps 17 (bz_goto 4) from bz_o_goto (off := (-13)) (t := 4) (by decide +kernel) (by decide)) ?_
  refine bz_ac (show bz_ok RX11 cX11_behindSteps 20 (bz_iload 2 1) from bz_o_iload_n (k := 2) (i := 2) (by decide +kernel) rfl) ?_
  refine bz_ac (show bz_rok cX11_behindSteps (some .int) 21 1 from Or.inr (Or.inl ⟨rfl, rfl, by decide +kernel⟩)) ?_
  exact bz_an
set_option maxRecDepth 100000 in
theorem bo_X11_metMany (l : Launch) : ∀ q ∈ bt_X11_metMany, bz_rw bz_P l bm_X11_metMany q := by
  refine bz_ac (show bz_ok RX11 cX11_metMany 0 (bz_push (.int 0) 1) from bz_o_iconst (n := 0) (v := 0) (by decide +kernel) (by decide)) ?_
  refine bz_ac (show bz_ok RX11 cX11_metMany 1 (bz_istore 2 1) from bz_o_istore_n (k := 2) (i := 2) (by decide +kernel) rfl) ?_
  refine bz_ac (show bz_ok RX11 cX11_metMany 2 (bz_iload 2 1) from bz_o_iload_n (k := 2) (i := 2) (by decide +kernel) rfl) ?_
  refine bz_ac (show bz_ok RX11 cX11_metMany 3 (bz_push (.int 45) 2) from bz_o_bipush (n := 45) (v := 45) (by decide +kernel) (by decide)) ?_
  refine bz_ac (show bz_ok RX11 cX11_metMany 5 (bz_ic_ge 21) from bz_o_ic_ge (off := 16) (t := 21) (by decide +kernel) (by decide)) ?_
  refine bz_ac (show bz_ok RX11 cX11_metMany 8 (bz_aload 0 1) from bz_o_aload_n (k := 0) (i := 0) (by decide +kernel) rfl) ?_
  refine bz_ac (show bz_ok RX11 cX11_metMany 9 (bz_getR 10 30) from bz_o_getR (ci := 10) (k := 30) (idx := 40) (C := RX11) (T := TX11) (N := 42) rfl bh_10 rfl rfl (bz_tb 702 (by decide +kernel) (by decide +kernel)) rfl (by decide +kernel)) ?_
  refine bz_ac (show bz_ok RX11 cX11_metMany 12 (bz_iload 2 1) from bz_o_iload_n (k := 2) (i := 2) (by decide +kernel) rfl) ?_
  refine bz_ac (show bz_ok RX11 cX11_metMany 13 (bz_push (.int 0) 1) from bz_o_iconst (n := 0) (v := 0) (by decide +kernel) (by decide)) ?_
  refine bz_ac (show bz_ok RX11 cX11_metMany 14 (bz_zast) from bz_o_zast (by decide +kernel)) ?_
  refine bz_ac (show bz_ok RX11 cX11_metMany 15 (bz_iinc 2 1) from bz_o_iinc (i := 2) (n := 1) (v := 1) (by decide +kernel) (by decide)) ?_
  refine bz_ac (show bz_ok RX11 cX11_metMany 18 (bz_goto 2) from bz_o_goto (off := (-16)) (t := 2) (by decide +kernel) (by decide)) ?_
  refine bz_ac (show bz_ok RX11 cX11_metMany 21 (bz_iload 1 1) from bz_o_iload_n (k := 1) (i := 1) (by decide +kernel) rfl) ?_
  refine bz_ac (show bz_ok RX11 cX11_metMany 22 (bz_istore 2 1) from bz_o_istore_n (k := 2) (i := 2) (by decide +kernel) rfl) ?_
  refine bz_ac (show bz_ok RX11 cX11_metMany 23 (bz_push (.int 0) 1) from bz_o_iconst (n := 0) (v := 0) (by decide +kernel) (by decide)) ?_
  refine bz_ac (show bz_ok RX11 cX11_metMany 24 (bz_istore 3 1) from bz_o_istore_n (k := 3) (i := 3) (by decide +kernel) rfl) ?_
  refine bz_ac (show bz_ok RX11 cX11_metMany 25 (bz_push (.int 0) 1) from bz_o_iconst (n := 0) (v := 0) (by decide +kernel) (by decide)) ?_
  refine bz_ac (show bz_ok RX11 cX11_metMany 26 (bz_istore 4 2) from bz_o_istore (i := 4) (by decide +kernel)) ?_
  refine bz_ac (show bz_ok RX11 cX11_metMany 28 (bz_iload 4 2) from bz_o_iload (i := 4) (by decide +kernel)) ?_
  refine bz_ac (show bz_ok RX11 cX11_metMany 30 (bz_push (.int 400) 3) from bz_o_sipush (n := 400) (v := 400) (by decide +kernel) (by decide)) ?_
  refine bz_ac (show bz_ok RX11 cX11_metMany 33 (bz_ic_ge 77) from bz_o_ic_ge (off := 44) (t := 77) (by decide +kernel) (by decide)) ?_
  refine bz_ac (show bz_ok RX11 cX11_metMany 36 (bz_iload 3 1) from bz_o_iload_n (k := 3) (i := 3) (by decide +kernel) rfl) ?_
  refine bz_ac (show bz_ok RX11 cX11_metMany 37 (bz_aload 0 1) from bz_o_aload_n (k := 0) (i := 0) (by decide +kernel) rfl) ?_
  refine bz_ac (show bz_ok RX11 cX11_metMany 38 (bz_getR 10 30) from bz_o_getR (ci := 10) (k := 30) (idx := 40) (C := RX11) (T := TX11) (N := 42) rfl bh_10 rfl rfl (bz_tb 702 (by decide +kernel) (by decide +kernel)) rfl (by decide +kernel)) ?_
  refine bz_ac (show bz_ok RX11 cX11_metMany 41 (bz_iload 2 1) from bz_o_iload_n (k := 2) (i := 2) (by decide +kernel) rfl) ?_
  refine bz_ac (show bz_ok RX11 cX11_metMany 42 (bz_push (.int 10) 2) from bz_o_bipush (n := 10) (v := 10) (by decide +kernel) (by decide)) ?_
  refine bz_ac (show bz_ok RX11 cX11_metMany 44 (bz_idiv) from bz_o_idiv (by decide +kernel)) ?_
  refine bz_ac (show bz_ok RX11 cX11_metMany 45 (bz_zald) from bz_o_zald (by decide +kernel)) ?_
  refine bz_ac (show bz_ok RX11 cX11_metMany 46 (bz_if_eq 53) from bz_o_if_eq (off := 7) (t := 53) (by decide +kernel) (by decide)) ?_
  refine bz_ac (show bz_ok RX11 cX11_metMany 49 (bz_push (.int 0) 1) from bz_o_iconst (n := 0) (v := 0) (by decide +kernel) (by decide)) ?_
  refine bz_ac (show bz_ok RX11 cX11_metMany 50 (bz_goto 54) from bz_o_goto (off := 4) (t := 54) (by decide +kernel) (by decide)) ?_
  refine bz_ac (show bz_ok RX11 cX11_metMany 53 (bz_push (.int 1) 1) from bz_o_iconst (n := 1) (v := 1) (by decide +kernel) (by decide)) ?_
  refine bz_ac (show bz_ok RX11 cX11_metMany 54 (bz_iadd) from bz_o_iadd (by decide +kernel)) ?_
  refine bz_ac (show bz_ok RX11 cX11_metMany 55 (bz_istore 3 1) from bz_o_istore_n (k := 3) (i := 3) (by decide +kernel) rfl) ?_
  refine bz_ac (show bz_ok RX11 cX11_metMany 56 (bz_aload 0 1) from bz_o_aload_n (k := 0) (i := 0) (by decide +kernel) rfl) ?_
  refine bz_ac (show bz_ok RX11 cX11_metMany 57 (bz_getR 10 30) from bz_o_getR (ci := 10) (k := 30) (idx := 40) (C := RX11) (T := TX11) (N := 42) rfl bh_10 rfl rfl (bz_tb 702 (by decide +kernel) (by decide +kernel)) rfl (by decide +kernel)) ?_
  refine bz_ac (show bz_ok RX11 cX11_metMany 60 (bz_iload 2 1) from bz_o_iload_n (k := 2) (i := 2) (by decide +kernel) rfl) ?_
  refine bz_ac (show bz_ok RX11 cX11_metMany 61 (bz_push (.int 10) 2) from bz_o_bipush (n := 10) (v := 10) (by decide +kernel) (by decide)) ?_
  refine bz_ac (show bz_ok RX11 cX11_metMany 63 (bz_idiv) from bz_o_idiv (by decide +kernel)) ?_
  refine bz_ac (show bz_ok RX11 cX11_metMany 64 (bz_push (.int 1) 1) from bz_o_iconst (n := 1) (v := 1) (by decide +kernel) (by decide)) ?_
  refine bz_ac (show bz_ok RX11 cX11_metMany 65 (bz_zast) from bz_o_zast (by decide +kernel)) ?_
  refine bz_ac (show bz_ok RX11 cX11_metMany 66 (bz_iload 2 1) from bz_o_iload_n (k := 2) (i := 2) (by decide +kernel) rfl) ?_
  refine bz_ac (show bz_cok bz_P l RX11 cX11_metMany 3 70 67 mX11_next 1 0 from bz_cS' (own := RX11) (idx := 261) (n := 1) bp_X11_next bq_X11_next (by decide +kernel) (bz_tb 979 (by decide +kernel) (by decide +kernel)) (bz_tb 980 (by decide +kernel) (by decide +kernel)) rfl (by decide) (by decide)) ?_
  refine bz_ac (show bz_ok RX11 cX11_metMany 70 (bz_istore 2 1) from bz_o_istore_n (k := 2) (i := 2) (by decide +kernel) rfl) ?_
  refine bz_ac (show bz_ok RX11 cX11_metMany 71 (bz_iinc 4 1) from bz_o_iinc (i := 4) (n := 1) (v := 1) (by decide +kernel) (by decide)) ?_
  refine bz_ac (show bz_ok RX11 cX11_metMany 74 (bz_goto 28) from bz_o_goto (off := (-46)) (t := 28) (by decide +kernel) (by decide)) ?_
  refine bz_ac (show bz_ok RX11 cX11_metMany 77 (bz_iload 3 1) from bz_o_iload_n (k := 3) (i := 3) (by decide +kernel) rfl) ?_
  refine bz_ac (show bz_rok cX11_metMany (some .int) 78 1 from Or.inr (Or.inl ⟨rfl, rfl, by decide +kernel⟩)) ?_
  exact bz_an
set_option maxRecDepth 100000 in
theorem bo_X11_stepsBack (l : Launch) : ∀ q ∈ bt_X11_stepsBack, bz_rw bz_P l bm_X11_stepsBack q := by
  refine bz_ac (show bz_ok RX11 cX11_stepsBack 0 (bz_iload 0 1) from bz_o_iload_n (k := 0) (i := 0) (by decide +kernel) rfl) ?_
  refine bz_ac (show bz_cok bz_P l RX11 cX11_stepsBack 3 70 1 mX11_next 1 0 from bz_cS' (own := RX11) (idx := 261) (n := 1) bp_X11_next bq_X11_next (by decide +kernel) (bz_tb 979 (by decide +kernel) (by decide +kernel)) (bz_tb 980 (by decide +kernel) (by decide +kernel)) rfl (by decide) (by decide)) ?_
  refine bz_ac (show bz_ok RX11 cX11_stepsBack 4 (bz_istore 1 1) from bz_o_istore_n (k := 1) (i := 1) (by decide +kernel) rfl) ?_
  refine bz_ac (show bz_ok RX11 cX11_stepsBack 5 (bz_push (.int 1) 1) from bz_o_iconst (n := 1) (v := 1) (by decide +kernel) (by decide)) ?_
  refine bz_ac (show bz_ok RX11 cX11_stepsBack 6 (bz_istore 2 1) from bz_o_istore_n (k := 2) (i := 2) (by decide +kernel) rfl) ?_
  refine bz_ac (show bz_ok RX11 cX11_stepsBack 7 (bz_iload 2 1) from bz_o_iload_n (k := 2) (i := 2) (by decide +kernel) rfl) ?_
  refine bz_ac (show bz_ok RX11 cX11_stepsBack 8 (bz_push (.int 400) 3) from bz_o_sipush (n := 400) (v := 400) (by decide +kernel) (by decide)) ?_
  refine bz_ac (show bz_ok RX11 cX11_stepsBack 11 (bz_ic_ge 32) from bz_o_ic_ge (off := 21) (t := 32) (by decide +kernel) (by decide)) ?_
  refine bz_ac (show bz_ok RX11 cX11_stepsBack 14 (bz_iload 1 1) from bz_o_iload_n (k := 1) (i := 1) (by decide +kernel) rfl) ?_
  refine bz_ac (show bz_ok RX11 cX11_stepsBack 15 (bz_iload 0 1) from bz_o_iload_n (k := 0) (i := 0) (by decide +kernel) rfl) ?_
  refine bz_ac (show bz_ok RX11 cX11_stepsBack 16 (bz_ic_ne 21) from bz_o_ic_ne (off := 5) (t := 21) (by decide +kernel) (by decide)) ?_
  refine bz_ac (show bz_ok RX11 cX11_stepsBack 19 (bz_iload 2 1) from bz_o_iload_n (k := 2) (i := 2) (by decide +kernel) rfl) ?_
  refine bz_ac (show bz_rok cX11_stepsBack (some .int) 20 1 from Or.inr (Or.inl ⟨rfl, rfl, by decide +kernel⟩)) ?_
  refine bz_ac (show bz_ok RX11 cX11_stepsBack 21 (bz_iload 1 1) from bz_o_iload_n (k := 1) (i := 1) (by decide +kernel) rfl) ?_
  refine bz_ac (show bz_cok bz_P l RX11 cX11_stepsBack 3 70 22 mX11_next 1 0 from bz_cS' (own := RX11) (idx := 261) (n := 1) bp_X11_next bq_X11_next (by decide +kernel) (bz_tb 979 (by decide +kernel) (by decide +kernel)) (bz_tb 980 (by decide +kernel) (by decide +kernel)) rfl (by decide) (by decide)) ?_
  refine bz_ac (show bz_ok RX11 cX11_stepsBack 25 (bz_istore 1 1) from bz_o_istore_n (k := 1) (i := 1) (by decide +kernel) rfl) ?_
  refine bz_ac (show bz_ok RX11 cX11_stepsBack 26 (bz_iinc 2 1) from bz_o_iinc (i := 2) (n := 1) (v := 1) (by decide +kernel) (by decide)) ?_
  refine bz_ac (show bz_ok RX11 cX11_stepsBack 29 (bz_goto 7) from bz_o_goto (off := (-22)) (t := 7) (by decide +kernel) (by decide)) ?_
  refine bz_ac (show bz_ok RX11 cX11_stepsBack 32 (bz_push (.int (-6)) 2) from bz_o_bipush (n := (-6)) (v := (-6)) (by decide +kernel) (by decide)) ?_
  refine bz_ac (show bz_rok cX11_stepsBack (some .int) 34 1 from Or.inr (Or.inl ⟨rfl, rfl, by decide +kernel⟩)) ?_
  exact bz_an
set_option maxRecDepth 100000 in
theorem bo_X11_alone (l : Launch) : ∀ q ∈ bt_X11_alone, bz_rw bz_P l bm_X11_alone q := by
  refine bz_ac (show bz_ok RX11 cX11_alone 0 (bz_iload 1 1) from bz_o_iload_n (k := 1) (i := 1) (by decide +kernel) rfl) ?_
  refine bz_ac (show bz_cok bz_P l RX11 cX11_alone 4 94 1 mX11_isPlace 1 0 from bz_cS' (own := RX11) (idx := 101) (n := 1) bp_X11_isPlace bq_X11_isPlace (by decide +kernel) (bz_tb 812 (by decide +kernel) (by decide +kernel)) (bz_tb 813 (by decide +kernel) (by decide +kernel)) rfl (by decide) (by decide)) ?_
  refine bz_ac (show bz_ok RX11 cX11_alone 4 (bz_if_ne 9) from bz_o_if_ne (off := 5) (t := 9) (by decide +kernel) (by decide)) ?_
  refine bz_ac (show bz_ok RX11 cX11_alone 7 (bz_push (.int (-1)) 1) from bz_o_iconst (n := (-1)) (v := (-1)) (by decide +kernel) (by decide)) ?_
  refine bz_ac (show bz_rok cX11_alone (some .int) 8 1 from Or.inr (Or.inl ⟨rfl, rfl, by decide +kernel⟩)) ?_
  refine bz_ac (show bz_ok RX11 cX11_alone 9 (bz_iload 2 1) from bz_o_iload_n (k := 2) (i := 2) (by decide +kernel) rfl) ?_
  refine bz_ac (show bz_ok RX11 cX11_alone 10 (bz_i2l) from bz_o_i2l (by decide +kernel)) ?_
  refine bz_ac (show bz_ok RX11 cX11_alone 11 (bz_push (.long 0) 1) from bz_o_lconst (n := 0) (v := 0) (by decide +kernel) (by decide)) ?_
  refine bz_ac (show bz_ok RX11 cX11_alone 12 (bz_push (.long 7) 3) from bz_o_ldc2 (own := RX11) (i := 264) (v := 7) (by decide +kernel) (bz_tb 974 (by decide +kernel) (by decide +kernel))) ?_
  refine bz_ac (show bz_cok bz_P l RX11 cX11_alone 4 94 15 mX11_in 3 0 from bz_cS' (own := RX11) (idx := 75) (n := 3) bp_X11_in bq_X11_in (by decide +kernel) (bz_tb 809 (by decide +kernel) (by decide +kernel)) (bz_tb 810 (by decide +kernel) (by decide +kernel)) rfl (by decide) (by decide)) ?_
  refine bz_ac (show bz_ok RX11 cX11_alone 18 (bz_if_eq 46) from bz_o_if_eq (off := 28) (t := 46) (by decide +kernel) (by decide)) ?_
  refine bz_ac (show bz_ok RX11 cX11_alone 21 (bz_iload 3 1) from bz_o_iload_n (k := 3) (i := 3) (by decide +kernel) rfl) ?_
  refine bz_ac (show bz_ok RX11 cX11_alone 22 (bz_i2l) from bz_o_i2l (by decide +kernel)) ?_
  refine bz_ac (show bz_ok RX11 cX11_alone 23 (bz_push (.long 0) 1) from bz_o_lconst (n := 0) (v := 0) (by decide +kernel) (by decide)) ?_
  refine bz_ac (show bz_ok RX11 cX11_alone 24 (bz_push (.long 99999) 3) from bz_o_ldc2 (own := RX11) (i := 266) (v := 99999) (by decide +kernel) (bz_tb 975 (by decide +kernel) (by decide +kernel))) ?_
  refine bz_ac (show bz_cok bz_P l RX11 cX11_alone 4 94 27 mX11_in 3 0 from bz_cS' (own := RX11) (idx := 75) (n := 3) bp_X11_in bq_X11_in (by decide +kernel) (bz_tb 809 (by decide +kernel) (by decide +kernel)) (bz_tb 810 (by decide +kernel) (by decide +kernel)) rfl (by decide) (by decide)) ?_
  refine bz_ac (show bz_ok RX11 cX11_alone 30 (bz_if_eq 46) from bz_o_if_eq (off := 16) (t := 46) (by decide +kernel) (by decide)) ?_
  refine bz_ac (show bz_ok RX11 cX11_alone 33 (bz_iload 4 2) from bz_o_iload (i := 4) (by decide +kernel)) ?_
  refine bz_ac (show bz_ok RX11 cX11_alone 35 (bz_i2l) from bz_o_i2l (by decide +kernel)) ?_
  refine bz_ac (show bz_ok RX11 cX11_alone 36 (bz_push (.long 0) 1) from bz_o_lconst (n := 0) (v := 0) (by decide +kernel) (by decide)) ?_
  refine bz_ac (show bz_ok RX11 cX11_alone 37 (bz_push (.long 2) 3) from bz_o_ldc2 (own := RX11) (i := 73) (v := 2) (by decide +kernel) (bz_tb 808 (by decide +kernel) (by decide +kernel))) ?_
  refine bz_ac (show bz_cok bz_P l RX11 cX11_alone 4 94 40 mX11_in 3 0 from bz_cS' (own := RX11) (idx := 75) (n := 3) bp_X11_in bq_X11_in (by decide +kernel) (bz_tb 809 (by decide +kernel) (by decide +kernel)) (bz_tb 810 (by decide +kernel) (by decide +kernel)) rfl (by decide) (by decide)) ?_
  refine bz_ac (show bz_ok RX11 cX11_alone 43 (bz_if_ne 49) from bz_o_if_ne (off := 6) (t := 49) (by decide +kernel) (by decide)) ?_
  refine bz_ac (show bz_ok RX11 cX11_alone 46 (bz_push (.int (-2)) 2) from bz_o_bipush (n := (-2)) (v := (-2)) (by decide +kernel) (by decide)) ?_
  refine bz_ac (show bz_rok cX11_alone (some .int) 48 1 from Or.inr (Or.inl ⟨rfl, rfl, by decide +kernel⟩)) ?_
  refine bz_ac (show bz_ok RX11 cX11_alone 49 (bz_push (.int 10) 2) from bz_o_bipush (n := 10) (v := 10) (by decide +kernel) (by decide)) ?_
  refine bz_ac (show bz_ok RX11 cX11_alone 51 (bz_iload 1 1) from bz_o_iload_n (k := 1) (i := 1) (by decide +kernel) rfl) ?_
  refine bz_ac (show bz_ok RX11 cX11_alone 52 (bz_imul) from bz_o_imul (by decide +kernel)) ?_
  refine bz_ac (show bz_ok RX11 cX11_alone 53 (bz_iload 2 1) from bz_o_iload_n (k := 2) (i := 2) (by decide +kernel) rfl) ?_
  refine bz_ac (show bz_ok RX11 cX11_alone 54 (bz_iadd) from bz_o_iadd (by decide +kernel)) ?_
  refine bz_ac (show bz_ok RX11 cX11_alone 55 (bz_istore 5 2) from bz_o_istore (i := 5) (by decide +kernel)) ?_
  refine bz_ac (show bz_ok RX11 cX11_alone 57 (bz_iload 4 2) from bz_o_iload (i := 4) (by decide +kernel)) ?_
  refine bz_ac (show bz_ok RX11 cX11_alone 59 (bz_if_ne 74) from bz_o_if_ne (off := 15) (t := 74) (by decide +kernel) (by decide)) ?_
  refine bz_ac (show bz_ok RX11 cX11_alone 62 (bz_iload 5 2) from bz_o_iload (i := 5) (by decide +kernel)) ?_
  refine bz_ac (show bz_ok RX11 cX11_alone 64 (bz_iload 3 1) from bz_o_iload_n (k := 3) (i := 3) (by decide +kernel) rfl) ?_
  refine bz_ac (show bz_cok bz_P l RX11 cX11_alone 4 94 65 mX11_behindSteps 2 0 from bz_cS' (own := RX11) (idx := 268) (n := 2) bp_X11_behindSteps bq_X11_behindSteps (by decide +kernel) (bz_tb 976 (by decide +kernel) (by decide +kernel)) (bz_tb 977 (by decide +kernel) (by decide +kernel)) rfl (by decide) (by decide)) ?_
  refine bz_ac (show bz_ok RX11 cX11_alone 68 (bz_push (.int 10) 2) from bz_o_bipush (n := 10) (v := 10) (by decide +kernel) (by decide)) ?_
  refine bz_ac (show bz_ok RX11 cX11_alone 70 (bz_idiv) from bz_o_idiv (by decide +kernel)) ?_
  refine bz_ac (show bz_ok RX11 cX11_alone 71 (bz_goto 94) from bz_o_goto (off := 23) (t := 94) (by decide +kernel) (by decide)) ?_
  refine bz_ac (show bz_ok RX11 cX11_alone 74 (bz_iload 4 2) from bz_o_iload (i := 4) (by decide +kernel)) ?_
  refine bz_ac (show bz_ok RX11 cX11_alone 76 (bz_push (.int 1) 1) from bz_o_iconst (n := 1) (v := 1) (by decide +kernel) (by decide)) ?_
  refine bz_ac (show bz_ok RX11 cX11_alone 77 (bz_ic_ne 88) from bz_o_ic_ne (off := 11) (t := 88) (by decide +kernel) (by decide)) ?_
  refine bz_ac (show bz_ok RX11 cX11_alone 80 (bz_iload 5 2) from bz_o_iload (i := 5) (by decide +kernel)) ?_
  refine bz_ac (show bz_cok bz_P l RX11 cX11_alone 4 94 82 mX11_stepsBack 1 0 from bz_cS' (own := RX11) (idx := 271) (n := 1) bp_X11_stepsBack bq_X11_stepsBack (by decide +kernel) (bz_tb 982 (by decide +kernel) (by decide +kernel)) (bz_tb 983 (by decide +kernel) (by decide +kernel)) rfl (by decide) (by decide)) ?_
  refine bz_ac (show bz_ok RX11 cX11_alone 85 (bz_goto 94) from bz_o_goto (off := 9) (t := 94) (by decide +kernel) (by decide)) ?_
  refine bz_ac (show bz_ok RX11 cX11_alone 88 (bz_aload 0 1) from bz_o_aload_n (k := 0) (i := 0) (by decide +kernel) rfl) ?_
  refine bz_ac (show bz_ok RX11 cX11_alone 89 (bz_iload 5 2) from bz_o_iload (i := 5) (by decide +kernel)) ?_
  refine bz_ac (show bz_cok bz_P l RX11 cX11_alone 4 94 91 mX11_metMany 2 11 from bz_cV' (own := RX11) (idx := 274) (ci := 10) (N := 42) (T := TX11) (n := 1) bp_X11_metMany bq_X11_metMany (by decide +kernel) (bz_tb 985 (by decide +kernel) (by decide +kernel)) (bz_tb 987 (by decide +kernel) (by decide +kernel)) (bz_tb 32 (by decide +kernel) (by decide +kernel)) rfl rfl (by decide) (by decide)) ?_
  refine bz_ac (show bz_rok cX11_alone (some .int) 94 1 from Or.inr (Or.inl ⟨rfl, rfl, by decide +kernel⟩)) ?_
  exact bz_an
set_option maxRecDepth 100000 in
theorem bo_X11_leadsTo (l : Launch) : ∀ q ∈ bt_X11_leadsTo, bz_rw bz_P l bm_X11_leadsTo q := by
  refine bz_ac (show bz_ok RX11 cX11_leadsTo 0 (bz_push (.int 10) 2) from bz_o_bipush (n := 10) (v := 10) (by decide +kernel) (by decide)) ?_
  refine bz_ac (show bz_ok RX11 cX11_leadsTo 2 (bz_iload 1 1) from bz_o_iload_n (k := 1) (i := 1) (by decide +kernel) rfl) ?_
  refine bz_ac (show bz_ok RX11 cX11_leadsTo 3 (bz_imul) from bz_o_imul (by decide +kernel)) ?_
  refine bz_ac (show bz_ok RX11 cX11_leadsTo 4 (bz_iload 2 1) from bz_o_iload_n (k := 2) (i := 2) (by decide +kernel) rfl) ?_
  refine bz_ac (show bz_ok RX11 cX11_leadsTo 5 (bz_iadd) from bz_o_iadd (by decide +kernel)) ?_
  refine bz_ac (show bz_ok RX11 cX11_leadsTo 6 (bz_istore 4 2) from bz_o_istore (i := 4) (by decide +kernel)) ?_
  refine bz_ac (show bz_ok RX11 cX11_leadsTo 8 (bz_push (.int 0) 1) from bz_o_iconst (n := 0) (v := 0) (by decide +kernel) (by decide)) ?_
  refine bz_ac (show bz_ok RX11 cX11_leadsTo 9 (bz_istore 5 2) from bz_o_istore (i := 5) (by decide +kernel)) ?_
  refine bz_ac (show bz_ok RX11 cX11_leadsTo 11 (bz_push (.int 0) 1) from bz_o_iconst (n := 0) (v := 0) (by decide +kernel) (by decide)) ?_
  refine bz_ac (show bz_ok RX11 cX11_leadsTo 12 (bz_istore 6 2) from bz_o_istore (i := 6) (by decide +kernel)) ?_
  refine bz_ac (show bz_ok RX11 cX11_leadsTo 14 (bz_push (.int 1) 1) from bz_o_iconst (n := 1) (v := 1) (by decide +kernel) (by decide)) ?_
  refine bz_ac (show bz_ok RX11 cX11_leadsTo 15 (bz_istore 7 2) from bz_o_istore (i := 7) (by decide +kernel)) ?_
  refine bz_ac (show bz_ok RX11 cX11_leadsTo 17 (bz_iload 7 2) from bz_o_iload (i := 7) (by decide +kernel)) ?_
  refine bz_ac (show bz_ok RX11 cX11_leadsTo 19 (bz_push (.int 9) 2) from bz_o_bipush (n := 9) (v := 9) (by decide +kernel) (by decide)) ?_
  refine bz_ac (show bz_ok RX11 cX11_leadsTo 21 (bz_ic_gt 83) from bz_o_ic_gt (off := 62) (t := 83) (by decide +kernel) (by decide)) ?_
  refine bz_ac (show bz_ok RX11 cX11_leadsTo 24 (bz_iload 6 2) from bz_o_iload (i := 6) (by decide +kernel)) ?_
  refine bz_ac (show bz_ok RX11 cX11_leadsTo 26 (bz_if_ne 83) from bz_o_if_ne (off := 57) (t := 83) (by decide +kernel) (by decide)) ?_
  refine bz_ac (show bz_ok RX11 cX11_leadsTo 29 (bz_iload 4 2) from bz_o_iload (i := 4) (by decide +kernel)) ?_
  refine bz_ac (show bz_cok bz_P l RX11 cX11_leadsTo 3 70 31 mX11_next 1 0 from bz_cS' (own := RX11) (idx := 261) (n := 1) bp_X11_next bq_X11_next (by decide +kernel) (bz_tb 979 (by decide +kernel) (by decide +kernel)) (bz_tb 980 (by decide +kernel) (by decide +kernel)) rfl (by decide) (by decide)) ?_
  refine bz_ac (show bz_ok RX11 cX11_leadsTo 34 (bz_istore 4 2) from bz_o_istore (i := 4) (by decide +kernel)) ?_
  refine bz_ac (show bz_ok RX11 cX11_leadsTo 36 (bz_iload 4 2) from bz_o_iload (i := 4) (by decide +kernel)) ?_
  refine bz_ac (show bz_ok RX11 cX11_leadsTo 38 (bz_push (.int 10) 2) from bz_o_bipush (n := 10) (v := 10) (by decide +kernel) (by decide)) ?_
  refine bz_ac (show bz_ok RX11 cX11_leadsTo 40 (bz_idiv) from bz_o_idiv (by decide +kernel)) ?_
  refine bz_ac (show bz_cok bz_P l RX11 cX11_leadsTo 3 70 41 mX11_isPocket 1 0 from bz_cS' (own := RX11) (idx := 85) (n := 1) bp_X11_isPocket bq_X11_isPocket (by decide +kernel) (bz_tb 819 (by decide +kernel) (by decide +kernel)) (bz_tb 820 (by decide +kernel) (by decide +kernel)) rfl (by decide) (by decide)) ?_
  refine bz_ac (show bz_ok RX11 cX11_leadsTo 44 (bz_istore 6 2) from bz_o_istore (i := 6) (by decide +kernel)) ?_
  refine bz_ac (show bz_ok RX11 cX11_leadsTo 46 (bz_iload 5 2) from bz_o_iload (i := 5) (by decide +kernel)) ?_
  refine bz_ac (show bz_ok RX11 cX11_leadsTo 48 (bz_if_ne 70) from bz_o_if_ne (off := 22) (t := 70) (by decide +kernel) (by decide)) ?_
  refine bz_ac (show bz_ok RX11 cX11_leadsTo 51 (bz_iload 6 2) from bz_o_iload (i := 6) (by decide +kernel)) ?_
  refine bz_ac (show bz_ok RX11 cX11_leadsTo 53 (bz_if_ne 74) from bz_o_if_ne (off := 21) (t := 74) (by decide +kernel) (by decide)) ?_
  refine bz_ac (show bz_ok RX11 cX11_leadsTo 56 (bz_aload 0 1) from bz_o_aload_n (k := 0) (i := 0) (by decide +kernel) rfl) ?_
  refine bz_ac (show bz_ok RX11 cX11_leadsTo 57 (bz_getR 10 31) from bz_o_getR (ci := 10) (k := 31) (idx := 44) (C := RX11) (T := TX11) (N := 42) rfl bh_10 rfl rfl (bz_tb 703 (by decide +kernel) (by decide +kernel)) rfl (by decide +kernel)) ?_
  refine bz_ac (show bz_ok RX11 cX11_leadsTo 60 (bz_iload 4 2) from bz_o_iload (i := 4) (by decide +kernel)) ?_
  refine bz_ac (show bz_ok RX11 cX11_leadsTo 62 (bz_push (.int 10) 2) from bz_o_bipush (n := 10) (v := 10) (by decide +kernel) (by decide)) ?_
  refine bz_ac (show bz_ok RX11 cX11_leadsTo 64 (bz_idiv) from bz_o_idiv (by decide +kernel)) ?_
  refine bz_ac (show bz_ok RX11 cX11_leadsTo 65 (bz_iald) from bz_o_iald (by decide +kernel)) ?_
  refine bz_ac (show bz_ok RX11 cX11_leadsTo 66 (bz_iload 3 1) from bz_o_iload_n (k := 3) (i := 3) (by decide +kernel) rfl) ?_
  refine bz_ac (show bz_ok RX11 cX11_leadsTo 67 (bz_ic_ne 74) from bz_o_ic_ne (off := 7) (t := 74) (by decide +kernel) (by decide)) ?_
  refine bz_ac (show bz_ok RX11 cX11_leadsTo 70 (bz_push (.int 1) 1) from bz_o_iconst (n := 1) (v := 1) (by decide +kernel) (by decide)) ?_
  refine bz_ac (show bz_ok RX11 cX11_leadsTo 71 (bz_goto 75) from bz_o_goto (off := 4) (t := 75) (by decide +kernel) (by decide)) ?_
  refine bz_ac (show bz_ok RX11 cX11_leadsTo 74 (bz_push (.int 0) 1) from bz_o_iconst (n := 0) (v := 0) (by decide +kernel) (by decide)) ?_
  refine bz_ac (show bz_ok RX11 cX11_leadsTo 75 (bz_istore 5 2) from bz_o_istore (i := 5) (by decide +kernel)) ?_
  refine bz_ac (show bz_ok RX11 cX11_leadsTo 77 (bz_iinc 7 1) from bz_o_iinc (i := 7) (n := 1) (v := 1) (by decide +kernel) (by decide)) ?_
  refine bz_ac (show bz_ok RX11 cX11_leadsTo 80 (bz_goto 17) from bz_o_goto (off := (-63)) (t := 17) (by decide +kernel) (by decide)) ?_
  refine bz_ac (show bz_ok RX11 cX11_leadsTo 83 (bz_iload 5 2) from bz_o_iload (i := 5) (by decide +kernel)) ?_
  refine bz_ac (show bz_rok cX11_leadsTo (some .boolean) 85 3 from Or.inr (Or.inr (Or.inr ⟨rfl, rfl, by decide +kernel⟩))) ?_
  exact bz_an
set_option maxRecDepth 100000 in
theorem bo_X11_wayTo (l : Launch) : ∀ q ∈ bt_X11_wayTo, bz_rw bz_P l bm_X11_wayTo q := by
  refine bz_ac (show bz_ok RX11 cX11_wayTo 0 (bz_push (.int (-6)) 2) from bz_o_bipush (n := (-6)) (v := (-6)) (by decide +kernel) (by decide)) ?_
  refine bz_ac (show bz_ok RX11 cX11_wayTo 2 (bz_istore 3 1) from bz_o_istore_n (k := 3) (i := 3) (by decide +kernel) rfl) ?_
  refine bz_ac (show bz_ok RX11 cX11_wayTo 3 (bz_push (.int 7) 2) from bz_o_bipush (n := 7) (v := 7) (by decide +kernel) (by decide)) ?_
  refine bz_ac (show bz_ok RX11 cX11_wayTo 5 (bz_istore 4 2) from bz_o_istore (i := 4) (by decide +kernel)) ?_
  refine bz_ac (show bz_ok RX11 cX11_wayTo 7 (bz_iload 4 2) from bz_o_iload (i := 4) (by decide +kernel)) ?_
  refine bz_ac (show bz_ok RX11 cX11_wayTo 9 (bz_if_lt 36) from bz_o_if_lt (off := 27) (t := 36) (by decide +kernel) (by decide)) ?_
  refine bz_ac (show bz_ok RX11 cX11_wayTo 12 (bz_aload 0 1) from bz_o_aload_n (k := 0) (i := 0) (by decide +kernel) rfl) ?_
  refine bz_ac (show bz_ok RX11 cX11_wayTo 13 (bz_iload 1 1) from bz_o_iload_n (k := 1) (i := 1) (by decide +kernel) rfl) ?_
  refine bz_ac (show bz_ok RX11 cX11_wayTo 14 (bz_iload 4 2) from bz_o_iload (i := 4) (by decide +kernel)) ?_
  refine bz_ac (show bz_ok RX11 cX11_wayTo 16 (bz_iload 2 1) from bz_o_iload_n (k := 2) (i := 2) (by decide +kernel) rfl) ?_
  refine bz_ac (show bz_cok bz_P l RX11 cX11_wayTo 4 97 17 mX11_leadsTo 4 11 from bz_cV' (own := RX11) (idx := 277) (ci := 10) (N := 42) (T := TX11) (n := 3) bp_X11_leadsTo bq_X11_leadsTo (by decide +kernel) (bz_tb 1001 (by decide +kernel) (by decide +kernel)) (bz_tb 1003 (by decide +kernel) (by decide +kernel)) (bz_tb 35 (by decide +kernel) (by decide +kernel)) rfl rfl (by decide) (by decide)) ?_
  refine bz_ac (show bz_ok RX11 cX11_wayTo 20 (bz_if_eq 28) from bz_o_if_eq (off := 8) (t := 28) (by decide +kernel) (by decide)) ?_
  refine bz_ac (show bz_ok RX11 cX11_wayTo 23 (bz_iload 4 2) from bz_o_iload (i := 4) (by decide +kernel)) ?_
  refine bz_ac (show bz_ok RX11 cX11_wayTo 25 (bz_goto 29) from bz_o_goto (off := 4) (t := 29) (by decide +kernel) (by decide)) ?_
  refine bz_ac (show bz_ok RX11 cX11_wayTo 28 (bz_iload 3 1) from bz_o_iload_n (k := 3) (i := 3) (by decide +kernel) rfl) ?_
  refine bz_ac (show bz_ok RX11 cX11_wayTo 29 (bz_istore 3 1) from bz_o_istore_n (k := 3) (i := 3) (by decide +kernel) rfl) ?_
  refine bz_ac (show bz_ok RX11 cX11_wayTo 30 (bz_iinc 4 (-1)) from bz_o_iinc (i := 4) (n := (-1)) (v := (-1)) (by decide +kernel) (by decide)) ?_
  refine bz_ac (show bz_ok RX11 cX11_wayTo 33 (bz_goto 7) from bz_o_goto (off := (-26)) (t := 7) (by decide +kernel) (by decide)) ?_
  refine bz_ac (show bz_ok RX11 cX11_wayTo 36 (bz_iload 3 1) from bz_o_iload_n (k := 3) (i := 3) (by decide +kernel) rfl) ?_
  refine bz_ac (show bz_rok cX11_wayTo (some .int) 37 1 from Or.inr (Or.inl ⟨rfl, rfl, by decide +kernel⟩)) ?_
  exact bz_an
set_option maxRecDepth 100000 in
theorem bo_X11_findFar (l : Launch) : ∀ q ∈ bt_X11_findFar, bz_rw bz_P l bm_X11_findFar q := by
  refine bz_ac (show bz_ok RX11 cX11_findFar 0 (bz_push (.int 0) 1) from bz_o_iconst (n := 0) (v := 0) (by decide +kernel) (by decide)) ?_
  refine bz_ac (show bz_ok RX11 cX11_findFar 1 (bz_istore 2 1) from bz_o_istore_n (k := 2) (i := 2) (by decide +kernel) rfl) ?_
  refine bz_ac (show bz_ok RX11 cX11_findFar 2 (bz_push (.int 0) 1) from bz_o_iconst (n := 0) (v := 0) (by decide +kernel) (by decide)) ?_
  refine bz_ac (show bz_ok RX11 cX11_findFar 3 (bz_istore 3 1) from bz_o_istore_n (k := 3) (i := 3) (by decide +kernel) rfl) ?_
  refine bz_ac (show bz_ok RX11 cX11_findFar 4 (bz_iload 3 1) from bz_o_iload_n (k := 3) (i := 3) (by decide +kernel) rfl) ?_
  refine bz_ac (show bz_ok RX11 cX11_findFar 5 (bz_push (.int 45) 2) from bz_o_bipush (n := 45) (v := 45) (by decide +kernel) (by decide)) ?_
  refine bz_ac (show bz_ok RX11 cX11_findFar 7 (bz_ic_ge 86) from bz_o_ic_ge (off := 79) (t := 86) (by decide +kernel) (by decide)) ?_
  refine bz_ac (show bz_ok RX11 cX11_findFar 10 (bz_aload 0 1) from bz_o_aload_n (k := 0) (i := 0) (by decide +kernel) rfl) ?_
  refine bz_ac (show bz_ok RX11 cX11_findFar 11 (bz_getR 10 31) from bz_o_getR (ci := 10) (k := 31) (idx := 44) (C := RX11) (T := TX11) (N := 42) rfl bh_10 rfl rfl (bz_tb 703 (by decide +kernel) (by decide +kernel)) rfl (by decide +kernel)) ?_
  refine bz_ac (show bz_ok RX11 cX11_findFar 14 (bz_iload 3 1) from bz_o_iload_n (k := 3) (i := 3) (by decide +kernel) rfl) ?_
  refine bz_ac (show bz_ok RX11 cX11_findFar 15 (bz_iald) from bz_o_iald (by decide +kernel)) ?_
  refine bz_ac (show bz_ok RX11 cX11_findFar 16 (bz_if_ge 41) from bz_o_if_ge (off := 25) (t := 41) (by decide +kernel) (by decide)) ?_
  refine bz_ac (show bz_ok RX11 cX11_findFar 19 (bz_iload 3 1) from bz_o_iload_n (k := 3) (i := 3) (by decide +kernel) rfl) ?_
  refine bz_ac (show bz_cok bz_P l RX11 cX11_findFar 5 121 20 mX11_isPocket 1 0 from bz_cS' (own := RX11) (idx := 85) (n := 1) bp_X11_isPocket bq_X11_isPocket (by decide +kernel) (bz_tb 819 (by decide +kernel) (by decide +kernel)) (bz_tb 820 (by decide +kernel) (by decide +kernel)) rfl (by decide) (by decide)) ?_
  refine bz_ac (show bz_ok RX11 cX11_findFar 23 (bz_if_ne 41) from bz_o_if_ne (off := 18) (t := 41) (by decide +kernel) (by decide)) ?_
  refine bz_ac (show bz_ok RX11 cX11_findFar 26 (bz_aload 0 1) from bz_o_aload_n (k := 0) (i := 0) (by decide +kernel) rfl) ?_
  refine bz_ac (show bz_ok RX11 cX11_findFar 27 (bz_iload 3 1) from bz_o_iload_n (k := 3) (i := 3) (by decide +kernel) rfl) ?_
  refine bz_ac (show bz_ok RX11 cX11_findFar 28 (bz_iload 1 1) from bz_o_iload_n (k := 1) (i := 1) (by decide +kernel) rfl) ?_
  refine bz_ac (show bz_ok RX11 cX11_findFar 29 (bz_push (.int 1) 1) from bz_o_iconst (n := 1) (v := 1) (by decide +kernel) (by decide)) ?_
  refine bz_ac (show bz_ok RX11 cX11_findFar 30 (bz_isub) from bz_o_isub (by decide +kernel)) ?_
  refine bz_ac (show bz_cok bz_P l RX11 cX11_findFar 5 121 31 mX11_wayTo 3 11 from bz_cV' (own := RX11) (idx := 281) (ci := 10) (N := 42) (T := TX11) (n := 2) bp_X11_wayTo bq_X11_wayTo (by decide +kernel) (bz_tb 997 (by decide +kernel) (by decide +kernel)) (bz_tb 999 (by decide +kernel) (by decide +kernel)) (bz_tb 34 (by decide +kernel) (by decide +kernel)) rfl rfl (by decide) (by decide)) ?_
  refine bz_ac (show bz_ok RX11 cX11_findFar 34 (bz_if_lt 41) from bz_o_if_lt (off := 7) (t := 41) (by decide +kernel) (by decide)) ?_
  refine bz_ac (show bz_ok RX11 cX11_findFar 37 (bz_push (.int 1) 1) from bz_o_iconst (n := 1) (v := 1) (by decide +kernel) (by decide)) ?_
  refine bz_ac (show bz_ok RX11 cX11_findFar 38 (bz_goto 42) from bz_o_goto (off := 4) (t := 42) (by decide +kernel) (by decide)) ?_
  refine bz_ac (show bz_ok RX11 cX11_findFar 41 (bz_push (.int 0) 1) from bz_o_iconst (n := 0) (v := 0) (by decide +kernel) (by decide)) ?_
  refine bz_ac (show bz_ok RX11 cX11_findFar 42 (bz_istore 4 2) from bz_o_istore (i := 4) (by decide +kernel)) ?_
  refine bz_ac (show bz_ok RX11 cX11_findFar 44 (bz_aload 0 1) from bz_o_aload_n (k := 0) (i := 0) (by decide +kernel) rfl) ?_
  refine bz_ac (show bz_ok RX11 cX11_findFar 45 (bz_getR 10 31) from bz_o_getR (ci := 10) (k := 31) (idx := 44) (C := RX11) (T := TX11) (N := 42) rfl bh_10 rfl rfl (bz_tb 703 (by decide +kernel) (by decide +kernel)) rfl (by decide +kernel)) ?_
  refine bz_ac (show bz_ok RX11 cX11_findFar 48 (bz_iload 3 1) from bz_o_iload_n (k := 3) (i := 3) (by decide +kernel) rfl) ?_
  refine bz_ac (show bz_ok RX11 cX11_findFar 49 (bz_iload 4 2) from bz_o_iload (i := 4) (by decide +kernel)) ?_
  refine bz_ac (show bz_ok RX11 cX11_findFar 51 (bz_if_eq 58) from bz_o_if_eq (off := 7) (t := 58) (by decide +kernel) (by decide)) ?_
  refine bz_ac (show bz_ok RX11 cX11_findFar 54 (bz_iload 1 1) from bz_o_iload_n (k := 1) (i := 1) (by decide +kernel) rfl) ?_
  refine bz_ac (show bz_ok RX11 cX11_findFar 55 (bz_goto 64) from bz_o_goto (off := 9) (t := 64) (by decide +kernel) (by decide)) ?_
  refine bz_ac (show bz_ok RX11 cX11_findFar 58 (bz_aload 0 1) from bz_o_aload_n (k := 0) (i := 0) (by decide +kernel) rfl) ?_
  refine bz_ac (show bz_ok RX11 cX11_findFar 59 (bz_getR 10 31) from bz_o_getR (ci := 10) (k := 31) (idx := 44) (C := RX11) (T := TX11) (N := 42) rfl bh_10 rfl rfl (bz_tb 703 (by decide +kernel) (by decide +kernel)) rfl (by decide +kernel)) ?_
  refine bz_ac (show bz_ok RX11 cX11_findFar 62 (bz_iload 3 1) from bz_o_iload_n (k := 3) (i := 3) (by decide +kernel) rfl) ?_
  refine bz_ac (show bz_ok RX11 cX11_findFar 63 (bz_iald) from bz_o_iald (by decide +kernel)) ?_
  refine bz_ac (show bz_ok RX11 cX11_findFar 64 (bz_iast) from bz_o_iast (by decide +kernel)) ?_
  refine bz_ac (show bz_ok RX11 cX11_findFar 65 (bz_iload 2 1) from bz_o_iload_n (k := 2) (i := 2) (by decide +kernel) rfl) ?_
  refine bz_ac (show bz_ok RX11 cX11_findFar 66 (bz_if_ne 74) from bz_o_if_ne (off := 8) (t := 74) (by decide +kernel) (by decide)) ?_
  refine bz_ac (show bz_ok RX11 cX11_findFar 69 (bz_iload 4 2) from bz_o_iload (i := 4) (by decide +kernel)) ?_
  refine bz_ac (show bz_ok RX11 cX11_findFar 71 (bz_if_eq 78) from bz_o_if_eq (off := 7) (t := 78) (by decide +kernel) (by decide)) ?_
  refine bz_ac (show bz_ok RX11 cX11_findFar 74 (bz_push (.int 1) 1) from bz_o_iconst (n := 1) (v := 1) (by decide +kernel) (by decide)) ?_
  refine bz_ac (show bz_ok RX11 cX11_findFar 75 (bz_goto 79) from bz_o_goto (off := 4) (t := 79) (by decide +kernel) (by decide)) ?_
  refine bz_ac (show bz_ok RX11 cX11_findFar 78 (bz_push (.int 0) 1) from bz_o_iconst (n := 0) (v := 0) (by decide +kernel) (by decide)) ?_
  refine bz_ac (show bz_ok RX11 cX11_findFar 79 (bz_istore 2 1) from bz_o_istore_n (k := 2) (i := 2) (by decide +kernel) rfl) ?_
  refine bz_ac (show bz_ok RX11 cX11_findFar 80 (bz_iinc 3 1) from bz_o_iinc (i := 3) (n := 1) (v := 1) (by decide +kernel) (by decide)) ?_
  refine bz_ac (show bz_ok RX11 cX11_findFar 83 (bz_goto 4) from bz_o_goto (off := (-79)) (t := 4) (by decide +kernel) (by decide)) ?_
  refine bz_ac (show bz_ok RX11 cX11_findFar 86 (bz_iload 2 1) from bz_o_iload_n (k := 2) (i := 2) (by decide +kernel) rfl) ?_
  refine bz_ac (show bz_rok cX11_findFar (some .boolean) 87 3 from Or.inr (Or.inr (Or.inr ⟨rfl, rfl, by decide +kernel⟩))) ?_
  exact bz_an
set_option maxRecDepth 100000 in
theorem bo_X11_strokes (l : Launch) : ∀ q ∈ bt_X11_strokes, bz_rw bz_P l bm_X11_strokes q := by
  refine bz_ac (show bz_ok RX11 cX11_strokes 0 (bz_iload 1 1) from bz_o_iload_n (k := 1) (i := 1) (by decide +kernel) rfl) ?_
  refine bz_ac (show bz_cok bz_P l RX11 cX11_strokes 6 145 1 mX11_isPlace 1 0 from bz_cS' (own := RX11) (idx := 101) (n := 1) bp_X11_isPlace bq_X11_isPlace (by decide +kernel) (bz_tb 812 (by decide +kernel) (by decide +kernel)) (bz_tb 813 (by decide +kernel) (by decide +kernel)) rfl (by decide) (by decide)) ?_
  refine bz_ac (show bz_ok RX11 cX11_strokes 4 (bz_if_eq 14) from bz_o_if_eq (off := 10) (t := 14) (by decide +kernel) (by decide)) ?_
  refine bz_ac (show bz_ok RX11 cX11_strokes 7 (bz_iload 2 1) from bz_o_iload_n (k := 2) (i := 2) (by decide +kernel) rfl) ?_
  refine bz_ac (show bz_cok bz_P l RX11 cX11_strokes 6 145 8 mX11_isPlace 1 0 from bz_cS' (own := RX11) (idx := 101) (n := 1) bp_X11_isPlace bq_X11_isPlace (by decide +kernel) (bz_tb 812 (by decide +kernel) (by decide +kernel)) (bz_tb 813 (by decide +kernel) (by decide +kernel)) rfl (by decide) (by decide)) ?_
  refine bz_ac (show bz_ok RX11 cX11_strokes 11 (bz_if_ne 16) from bz_o_if_ne (off := 5) (t := 16) (by decide +kernel) (by decide)) ?_
  refine bz_ac (show bz_ok RX11 cX11_strokes 14 (bz_push (.int (-1)) 1) from bz_o_iconst (n := (-1)) (v := (-1)) (by decide +kernel) (by decide)) ?_
  refine bz_ac (show bz_rok cX11_strokes (some .int) 15 1 from Or.inr (Or.inl ⟨rfl, rfl, by decide +kernel⟩)) ?_
  refine bz_ac (show bz_ok RX11 cX11_strokes 16 (bz_iload 3 1) from bz_o_iload_n (k := 3) (i := 3) (by decide +kernel) rfl) ?_
  refine bz_ac (show bz_ok RX11 cX11_strokes 17 (bz_i2l) from bz_o_i2l (by decide +kernel)) ?_
  refine bz_ac (show bz_ok RX11 cX11_strokes 18 (bz_push (.long 0) 1) from bz_o_lconst (n := 0) (v := 0) (by decide +kernel) (by decide)) ?_
  refine bz_ac (show bz_ok RX11 cX11_strokes 19 (bz_push (.long 1) 1) from bz_o_lconst (n := 1) (v := 1) (by decide +kernel) (by decide)) ?_
  refine bz_ac (show bz_cok bz_P l RX11 cX11_strokes 6 145 20 mX11_in 3 0 from bz_cS' (own := RX11) (idx := 75) (n := 3) bp_X11_in bq_X11_in (by decide +kernel) (bz_tb 809 (by decide +kernel) (by decide +kernel)) (bz_tb 810 (by decide +kernel) (by decide +kernel)) rfl (by decide) (by decide)) ?_
  refine bz_ac (show bz_ok RX11 cX11_strokes 23 (bz_if_ne 29) from bz_o_if_ne (off := 6) (t := 29) (by decide +kernel) (by decide)) ?_
  refine bz_ac (show bz_ok RX11 cX11_strokes 26 (bz_push (.int (-2)) 2) from bz_o_bipush (n := (-2)) (v := (-2)) (by decide +kernel) (by decide)) ?_
  refine bz_ac (show bz_rok cX11_strokes (some .int) 28 1 from Or.inr (Or.inl ⟨rfl, rfl, by decide +kernel⟩)) ?_
  refine bz_ac (show bz_ok RX11 cX11_strokes 29 (bz_push (.int 0) 1) from bz_o_iconst (n := 0) (v := 0) (by decide +kernel) (by decide)) ?_
  refine bz_ac (show bz_ok RX11 cX11_strokes 30 (bz_istore 4 2) from bz_o_istore (i := 4) (by decide +kernel)) ?_
  refine bz_ac (show bz_ok RX11 cX11_strokes 32 (bz_iload 4 2) from bz_o_iload (i := 4) (by decide +kernel)) ?_
  refine bz_ac (show bz_ok RX11 cX11_strokes 34 (bz_push (.int 45) 2) from bz_o_bipush (n := 45) (v := 45) (by decide +kernel) (by decide)) ?_
  refine bz_ac (show bz_ok RX11 cX11_strokes 36 (bz_ic_ge 64) from bz_o_ic_ge (off := 28) (t := 64) (by decide +kernel) (by decide)) ?_
  refine bz_ac (show bz_ok RX11 cX11_strokes 39 (bz_aload 0 1) from bz_o_aload_n (k := 0) (i := 0) (by decide +kernel) rfl) ?_
  refine bz_ac (show bz_ok RX11 cX11_strokes 40 (bz_getR 10 31) from bz_o_getR (ci := 10) (k := 31) (idx := 44) (C := RX11) (T := TX11) (N := 42) rfl bh_10 rfl rfl (bz_tb 703 (by decide +kernel) (by decide +kernel)) rfl (by decide +kernel)) ?_
  refine bz_ac (show bz_ok RX11 cX11_strokes 43 (bz_iload 4 2) from bz_o_iload (i := 4) (by decide +kernel)) ?_
  refine bz_ac (show bz_ok RX11 cX11_strokes 45 (bz_iload 4 2) from bz_o_iload (i := 4) (by decide +kernel)) ?_
  refine bz_ac (show bz_ok RX11 cX11_strokes 47 (bz_iload 2 1) from bz_o_iload_n (k := 2) (i := 2) (by decide +kernel) rfl) ?_
  refine bz_ac (show bz_ok RX11 cX11_strokes 48 (bz_ic_ne 55) from bz_o_ic_ne (off := 7) (t := 55) (by decide +kernel) (by decide)) ?_
  refine bz_ac (show bz_ok RX11 cX11_strokes 51 (bz_push (.int 0) 1) from bz_o_iconst (n := 0) (v := 0) (by decide +kernel) (by decide)) ?_
  refine bz_ac (show bz_ok RX11 cX11_strokes 52 (bz_goto 57) from bz_o_goto (off := 5) (t := 57) (by decide +kernel) (by decide)) ?_
  refine bz_ac (show bz_ok RX11 cX11_strokes 55 (bz_push (.int (-6)) 2) from bz_o_bipush (n := (-6)) (v := (-6)) (by decide +kernel) (by decide)) ?_
  refine bz_ac (show bz_ok RX11 cX11_strokes 57 (bz_iast) from bz_o_iast (by decide +kernel)) ?_
  refine bz_ac (show bz_ok RX11 cX11_strokes 58 (bz_iinc 4 1) from bz_o_iinc (i := 4) (n := 1) (v := 1) (by decide +kernel) (by decide)) ?_
  refine bz_ac (show bz_ok RX11 cX11_strokes 61 (bz_goto 32) from bz_o_goto (off := (-29)) (t := 32) (by decide +kernel) (by decide)) ?_
  refine bz_ac (show bz_ok RX11 cX11_strokes 64 (bz_push (.int 1) 1) from bz_o_iconst (n := 1) (v := 1) (by decide +kernel) (by decide)) ?_
  refine bz_ac (show bz_ok RX11 cX11_strokes 65 (bz_istore 4 2) from bz_o_istore (i := 4) (by decide +kernel)) ?_
  refine bz_ac (show bz_ok RX11 cX11_strokes 67 (bz_push (.int 1) 1) from bz_o_iconst (n := 1) (v := 1) (by decide +kernel) (by decide)) ?_
  refine bz_ac (show bz_ok RX11 cX11_strokes 68 (bz_istore 5 2) from bz_o_istore (i := 5) (by decide +kernel)) ?_
  refine bz_ac (show bz_ok RX11 cX11_strokes 70 (bz_iload 4 2) from bz_o_iload (i := 4) (by decide +kernel)) ?_
  refine bz_ac (show bz_ok RX11 cX11_strokes 72 (bz_if_eq 89) from bz_o_if_eq (off := 17) (t := 89) (by decide +kernel) (by decide)) ?_
  refine bz_ac (show bz_ok RX11 cX11_strokes 75 (bz_aload 0 1) from bz_o_aload_n (k := 0) (i := 0) (by decide +kernel) rfl) ?_
  refine bz_ac (show bz_ok RX11 cX11_strokes 76 (bz_iload 5 2) from bz_o_iload (i := 5) (by decide +kernel)) ?_
  refine bz_ac (show bz_cok bz_P l RX11 cX11_strokes 6 145 78 mX11_findFar 2 11 from bz_cV' (own := RX11) (idx := 284) (ci := 10) (N := 42) (T := TX11) (n := 1) bp_X11_findFar bq_X11_findFar (by decide +kernel) (bz_tb 993 (by decide +kernel) (by decide +kernel)) (bz_tb 995 (by decide +kernel) (by decide +kernel)) (bz_tb 33 (by decide +kernel) (by decide +kernel)) rfl rfl (by decide) (by decide)) ?_
  refine bz_ac (show bz_ok RX11 cX11_strokes 81 (bz_istore 4 2) from bz_o_istore (i := 4) (by decide +kernel)) ?_
  refine bz_ac (show bz_ok RX11 cX11_strokes 83 (bz_iinc 5 1) from bz_o_iinc (i := 5) (n := 1) (v := 1) (by decide +kernel) (by decide)) ?_
  refine bz_ac (show bz_ok RX11 cX11_strokes 86 (bz_goto 70) from bz_o_goto (off := (-16)) (t := 70) (by decide +kernel) (by decide)) ?_
  refine bz_ac (show bz_ok RX11 cX11_strokes 89 (bz_iload 3 1) from bz_o_iload_n (k := 3) (i := 3) (by decide +kernel) rfl) ?_
  refine bz_ac (show bz_ok RX11 cX11_strokes 90 (bz_if_ne 102) from bz_o_if_ne (off := 12) (t := 102) (by decide +kernel) (by decide)) ?_
  refine bz_ac (show bz_ok RX11 cX11_strokes 93 (bz_aload 0 1) from bz_o_aload_n (k := 0) (i := 0) (by decide +kernel) rfl) ?_
  refine bz_ac (show bz_ok RX11 cX11_strokes 94 (bz_getR 10 31) from bz_o_getR (ci := 10) (k := 31) (idx := 44) (C := RX11) (T := TX11) (N := 42) rfl bh_10 rfl rfl (bz_tb 703 (by decide +kernel) (by decide +kernel)) rfl (by decide +kernel)) ?_
  refine bz_ac (show bz_ok RX11 cX11_strokes 97 (bz_iload 1 1) from bz_o_iload_n (k := 1) (i := 1) (by decide +kernel) rfl) ?_
  refine bz_ac (show bz_ok RX11 cX11_strokes 98 (bz_iald) from bz_o_iald (by decide +kernel)) ?_
  refine bz_ac (show bz_ok RX11 cX11_strokes 99 (bz_goto 130) from bz_o_goto (off := 31) (t := 130) (by decide +kernel) (by decide)) ?_
  refine bz_ac (show bz_ok RX11 cX11_strokes 102 (bz_aload 0 1) from bz_o_aload_n (k := 0) (i := 0) (by decide +kernel) rfl) ?_
  refine bz_ac (show bz_ok RX11 cX11_strokes 103 (bz_getR 10 31) from bz_o_getR (ci := 10) (k := 31) (idx := 44) (C := RX11) (T := TX11) (N := 42) rfl bh_10 rfl rfl (bz_tb 703 (by decide +kernel) (by decide +kernel)) rfl (by decide +kernel)) ?_
  refine bz_ac (show bz_ok RX11 cX11_strokes 106 (bz_iload 1 1) from bz_o_iload_n (k := 1) (i := 1) (by decide +kernel) rfl) ?_
  refine bz_ac (show bz_ok RX11 cX11_strokes 107 (bz_iald) from bz_o_iald (by decide +kernel)) ?_
  refine bz_ac (show bz_ok RX11 cX11_strokes 108 (bz_push (.int 1) 1) from bz_o_iconst (n := 1) (v := 1) (by decide +kernel) (by decide)) ?_
  refine bz_ac (show bz_ok RX11 cX11_strokes 109 (bz_ic_ge 117) from bz_o_ic_ge (off := 8) (t := 117) (by decide +kernel) (by decide)) ?_
  refine bz_ac (show bz_ok RX11 cX11_strokes 112 (bz_push (.int (-6)) 2) from bz_o_bipush (n := (-6)) (v := (-6)) (by decide +kernel) (by decide)) ?_
  refine bz_ac (show bz_ok RX11 cX11_strokes 114 (bz_goto 130) from bz_o_goto (off := 16) (t := 130) (by decide +kernel) (by decide)) ?_
  refine bz_ac (show bz_ok RX11 cX11_strokes 117 (bz_aload 0 1) from bz_o_aload_n (k := 0) (i := 0) (by decide +kernel) rfl) ?_
  refine bz_ac (show bz_ok RX11 cX11_strokes 118 (bz_iload 1 1) from bz_o_iload_n (k := 1) (i := 1) (by decide +kernel) rfl) ?_
  refine bz_ac (show bz_ok RX11 cX11_strokes 119 (bz_aload 0 1) from bz_o_aload_n (k := 0) (i := 0) (by decide +kernel) rfl) ?_
  refine bz_ac (show bz_ok RX11 cX11_strokes 120 (bz_getR 10 31) from bz_o_getR (ci := 10) (k := 31) (idx := 44) (C := RX11) (T := TX11) (N := 42) rfl bh_10 rfl rfl (bz_tb 703 (by decide +kernel) (by decide +kernel)) rfl (by decide +kernel)) ?_
  refine bz_ac (show bz_ok RX11 cX11_strokes 123 (bz_iload 1 1) from bz_o_iload_n (k := 1) (i := 1) (by decide +kernel) rfl) ?_
  refine bz_ac (show bz_ok RX11 cX11_strokes 124 (bz_iald) from bz_o_iald (by decide +kernel)) ?_
  refine bz_ac (show bz_ok RX11 cX11_strokes 125 (bz_push (.int 1) 1) from bz_o_iconst (n := 1) (v := 1) (by decide +kernel) (by decide)) ?_
  refine bz_ac (show bz_ok RX11 cX11_strokes 126 (bz_isub) from bz_o_isub (by decide +kernel)) ?_
  refine bz_ac (show bz_cok bz_P l RX11 cX11_strokes 6 145 127 mX11_wayTo 3 11 from bz_cV' (own := RX11) (idx := 281) (ci := 10) (N := 42) (T := TX11) (n := 2) bp_X11_wayTo bq_X11_wayTo (by decide +kernel) (bz_tb 997 (by decide +kernel) (by decide +kernel)) (bz_tb 999 (by decide +kernel) (by decide +kernel)) (bz_tb 34 (by decide +kernel) (by decide +kernel)) rfl rfl (by decide) (by decide)) ?_
  refine bz_ac (show bz_rok cX11_strokes (some .int) 130 1 from Or.inr (Or.inl ⟨rfl, rfl, by decide +kernel⟩)) ?_
  exact bz_an
set_option maxRecDepth 100000 in
theorem bo_X11_seen (l : Launch) : ∀ q ∈ bt_X11_seen, bz_rw bz_P l bm_X11_seen q := by
  refine bz_ac (show bz_ok RX11 cX11_seen 0 (bz_iload 2 1) from bz_o_iload_n (k := 2) (i := 2) (by decide +kernel) rfl) ?_
  refine bz_ac (show bz_cok bz_P l RX11 cX11_seen 2 45 1 mX11_isCell 1 0 from bz_cS' (own := RX11) (idx := 81) (n := 1) bp_X11_isCell bq_X11_isCell (by decide +kernel) (bz_tb 815 (by decide +kernel) (by decide +kernel)) (bz_tb 816 (by decide +kernel) (by decide +kernel)) rfl (by decide) (by decide)) ?_
  refine bz_ac (show bz_ok RX11 cX11_seen 4 (bz_if_ne 9) from bz_o_if_ne (off := 5) (t := 9) (by decide +kernel) (by decide)) ?_
  refine bz_ac (show bz_ok RX11 cX11_seen 7 (bz_push (.int (-1)) 1) from bz_o_iconst (n := (-1)) (v := (-1)) (by decide +kernel) (by decide)) ?_
  refine bz_ac (show bz_rok cX11_seen (some .int) 8 1 from Or.inr (Or.inl ⟨rfl, rfl, by decide +kernel⟩)) ?_
  refine bz_ac (show bz_ok RX11 cX11_seen 9 (bz_iload 1 1) from bz_o_iload_n (k := 1) (i := 1) (by decide +kernel) rfl) ?_
  refine bz_ac (show bz_ok RX11 cX11_seen 10 (bz_i2l) from bz_o_i2l (by decide +kernel)) ?_
  refine bz_ac (show bz_ok RX11 cX11_seen 11 (bz_push (.long 0) 1) from bz_o_lconst (n := 0) (v := 0) (by decide +kernel) (by decide)) ?_
  refine bz_ac (show bz_ok RX11 cX11_seen 12 (bz_push (.long 60) 3) from bz_o_ldc2 (own := RX11) (i := 287) (v := 60) (by decide +kernel) (bz_tb 1009 (by decide +kernel) (by decide +kernel))) ?_
  refine bz_ac (show bz_cok bz_P l RX11 cX11_seen 2 45 15 mX11_in 3 0 from bz_cS' (own := RX11) (idx := 75) (n := 3) bp_X11_in bq_X11_in (by decide +kernel) (bz_tb 809 (by decide +kernel) (by decide +kernel)) (bz_tb 810 (by decide +kernel) (by decide +kernel)) rfl (by decide) (by decide)) ?_
  refine bz_ac (show bz_ok RX11 cX11_seen 18 (bz_if_ne 24) from bz_o_if_ne (off := 6) (t := 24) (by decide +kernel) (by decide)) ?_
  refine bz_ac (show bz_ok RX11 cX11_seen 21 (bz_push (.int (-2)) 2) from bz_o_bipush (n := (-2)) (v := (-2)) (by decide +kernel) (by decide)) ?_
  refine bz_ac (show bz_rok cX11_seen (some .int) 23 1 from Or.inr (Or.inl ⟨rfl, rfl, by decide +kernel⟩)) ?_
  refine bz_ac (show bz_ok RX11 cX11_seen 24 (bz_aload 0 1) from bz_o_aload_n (k := 0) (i := 0) (by decide +kernel) rfl) ?_
  refine bz_ac (show bz_ok RX11 cX11_seen 25 (bz_getI 10 6) from bz_o_getI (ci := 10) (k := 6) (idx := 289) (C := RX11) (T := TX11) (N := 42) rfl bh_10 rfl rfl (bz_tb 678 (by decide +kernel) (by decide +kernel)) (Or.inl rfl) (by decide +kernel)) ?_
  refine bz_ac (show bz_ok RX11 cX11_seen 28 (bz_push (.int 8) 2) from bz_o_bipush (n := 8) (v := 8) (by decide +kernel) (by decide)) ?_
  refine bz_ac (show bz_ok RX11 cX11_seen 30 (bz_ic_ne 36) from bz_o_ic_ne (off := 6) (t := 36) (by decide +kernel) (by decide)) ?_
  refine bz_ac (show bz_ok RX11 cX11_seen 33 (bz_push (.int (-4)) 2) from bz_o_bipush (n := (-4)) (v := (-4)) (by decide +kernel) (by decide)) ?_
  refine bz_ac (show bz_rok cX11_seen (some .int) 35 1 from Or.inr (Or.inl ⟨rfl, rfl, by decide +kernel⟩)) ?_
  refine bz_ac (show bz_ok RX11 cX11_seen 36 (bz_aload 0 1) from bz_o_aload_n (k := 0) (i := 0) (by decide +kernel) rfl) ?_
  refine bz_ac (show bz_ok RX11 cX11_seen 37 (bz_getR 10 4) from bz_o_getR (ci := 10) (k := 4) (idx := 13) (C := RX11) (T := TX11) (N := 42) rfl bh_10 rfl rfl (bz_tb 676 (by decide +kernel) (by decide +kernel)) rfl (by decide +kernel)) ?_
  refine bz_ac (show bz_ok RX11 cX11_seen 40 (bz_aload 0 1) from bz_o_aload_n (k := 0) (i := 0) (by decide +kernel) rfl) ?_
  refine bz_ac (show bz_ok RX11 cX11_seen 41 (bz_getI 10 6) from bz_o_getI (ci := 10) (k := 6) (idx := 289) (C := RX11) (T := TX11) (N := 42) rfl bh_10 rfl rfl (bz_tb 678 (by decide +kernel) (by decide +kernel)) (Or.inl rfl) (by decide +kernel)) ?_
  refine bz_ac (show bz_ok RX11 cX11_seen 44 (bz_iload 1 1) from bz_o_iload_n (k := 1) (i := 1) (by decide +kernel) rfl) ?_
  refine bz_ac (show bz_ok RX11 cX11_seen 45 (bz_iast) from bz_o_iast (by decide +kernel)) ?_
  refine bz_ac (show bz_ok RX11 cX11_seen 46 (bz_aload 0 1) from bz_o_aload_n (k := 0) (i := 0) (by decide +kernel) rfl) ?_
  refine bz_ac (show bz_ok RX11 cX11_seen 47 (bz_getR 10 5) from bz_o_getR (ci := 10) (k := 5) (idx := 16) (C := RX11) (T := TX11) (N := 42) rfl bh_10 rfl rfl (bz_tb 677 (by decide +kernel) (by decide +kernel)) rfl (by decide +kernel)) ?_
  refine bz_ac (show bz_ok RX11 cX11_seen 50 (bz_aload 0 1) from bz_o_aload_n (k := 0) (i := 0) (by decide +kernel) rfl) ?_
  refine bz_ac (show bz_ok RX11 cX11_seen 51 (bz_getI 10 6) from bz_o_getI (ci := 10) (k := 6) (idx := 289) (C := RX11) (T := TX11) (N := 42) rfl bh_10 rfl rfl (bz_tb 678 (by decide +kernel) (by decide +kernel)) (Or.inl rfl) (by decide +kernel)) ?_
  refine bz_ac (show bz_ok RX11 cX11_seen 54 (bz_iload 2 1) from bz_o_iload_n (k := 2) (i := 2) (by decide +kernel) rfl) ?_
  refine bz_ac (show bz_ok RX11 cX11_seen 55 (bz_iast) from bz_o_iast (by decide +kernel)) ?_
  refine bz_ac (show bz_ok RX11 cX11_seen 56 (bz_aload 0 1) from bz_o_aload_n (k := 0) (i := 0) (by decide +kernel) rfl) ?_
  refine bz_ac (show bz_ok RX11 cX11_seen 57 (bz_dup) from bz_o_dup (by decide +kernel)) ?_
  refine bz_ac (show bz_ok RX11 cX11_seen 58 (bz_getI 10 6) from bz_o_getI (ci := 10) (k := 6) (idx := 289) (C := RX11) (T := TX11) (N := 42) rfl bh_10 rfl rfl (bz_tb 678 (by decide +kernel) (by decide +kernel)) (Or.inl rfl) (by decide +kernel)) ?_
  refine bz_ac (show bz_ok RX11 cX11_seen 61 (bz_push (.int 1) 1) from bz_o_iconst (n := 1) (v := 1) (by decide +kernel) (by decide)) ?_
  refine bz_ac (show bz_ok RX11 cX11_seen 62 (bz_iadd) from bz_o_iadd (by decide +kernel)) ?_
  refine bz_ac (show bz_ok RX11 cX11_seen 63 (bz_putI 10 6) from bz_o_putI (ci := 10) (k := 6) (idx := 289) (C := RX11) (T := TX11) (N := 42) rfl bh_10 rfl rfl (bz_tb 678 (by decide +kernel) (by decide +kernel)) tyX11 tyX11_ok nmX11 rfl rfl rfl (by decide +kernel)) ?_
  refine bz_ac (show bz_ok RX11 cX11_seen 66 (bz_aload 0 1) from bz_o_aload_n (k := 0) (i := 0) (by decide +kernel) rfl) ?_
  refine bz_ac (show bz_ok RX11 cX11_seen 67 (bz_getI 10 6) from bz_o_getI (ci := 10) (k := 6) (idx := 289) (C := RX11) (T := TX11) (N := 42) rfl bh_10 rfl rfl (bz_tb 678 (by decide +kernel) (by decide +kernel)) (Or.inl rfl) (by decide +kernel)) ?_
  refine bz_ac (show bz_rok cX11_seen (some .int) 70 1 from Or.inr (Or.inl ⟨rfl, rfl, by decide +kernel⟩)) ?_
  exact bz_an
set_option maxRecDepth 100000 in
theorem bo_X11_forget (l : Launch) : ∀ q ∈ bt_X11_forget, bz_rw bz_P l bm_X11_forget q := by
  refine bz_ac (show bz_ok RX11 cX11_forget 0 (bz_aload 0 1) from bz_o_aload_n (k := 0) (i := 0) (by decide +kernel) rfl) ?_
  refine bz_ac (show bz_ok RX11 cX11_forget 1 (bz_getI 10 6) from bz_o_getI (ci := 10) (k := 6) (idx := 289) (C := RX11) (T := TX11) (N := 42) rfl bh_10 rfl rfl (bz_tb 678 (by decide +kernel) (by decide +kernel)) (Or.inl rfl) (by decide +kernel)) ?_
  refine bz_ac (show bz_ok RX11 cX11_forget 4 (bz_istore 1 1) from bz_o_istore_n (k := 1) (i := 1) (by decide +kernel) rfl) ?_
  refine bz_ac (show bz_ok RX11 cX11_forget 5 (bz_aload 0 1) from bz_o_aload_n (k := 0) (i := 0) (by decide +kernel) rfl) ?_
  refine bz_ac (show bz_ok RX11 cX11_forget 6 (bz_push (.int 0) 1) from bz_o_iconst (n := 0) (v := 0) (by decide +kernel) (by decide)) ?_
  refine bz_ac (show bz_ok RX11 cX11_forget 7 (bz_putI 10 6) from bz_o_putI (ci := 10) (k := 6) (idx := 289) (C := RX11) (T := TX11) (N := 42) rfl bh_10 rfl rfl (bz_tb 678 (by decide +kernel) (by decide +kernel)) tyX11 tyX11_ok nmX11 rfl rfl rfl (by decide +kernel)) ?_
  refine bz_ac (show bz_ok RX11 cX11_forget 10 (bz_iload 1 1) from bz_o_iload_n (k := 1) (i := 1) (by decide +kernel) rfl) ?_
  refine bz_ac (show bz_rok cX11_forget (some .int) 11 1 from Or.inr (Or.inl ⟨rfl, rfl, by decide +kernel⟩)) ?_
  exact bz_an
set_option maxRecDepth 100000 in
theorem bo_X11_isFit (l : Launch) : ∀ q ∈ bt_X11_isFit, bz_rw bz_P l bm_X11_isFit q := by
  refine bz_ac (show bz_ok RX11 cX11_isFit 0 (bz_iload 1 1) from bz_o_iload_n (k := 1) (i := 1) (by decide +kernel) rfl) ?_
  refine bz_ac (show bz_ok RX11 cX11_isFit 1 (bz_push (.int 10) 2) from bz_o_bipush (n := 10) (v := 10) (by decide +kernel) (by decide)) ?_
  refine bz_ac (show bz_ok RX11 cX11_isFit 3 (bz_irem) from bz_o_irem (by decide +kernel)) ?_
  refine bz_ac (show bz_ok RX11 cX11_isFit 4 (bz_push (.int 8) 2) from bz_o_bipush (n := 8) (v := 8) (by decide +kernel) (by decide)) ?_
  refine bz_ac (show bz_ok RX11 cX11_isFit 6 (bz_ic_ge 23) from bz_o_ic_ge (off := 17) (t := 23) (by decide +kernel) (by decide)) ?_
  refine bz_ac (show bz_ok RX11 cX11_isFit 9 (bz_iload 1 1) from bz_o_iload_n (k := 1) (i := 1) (by decide +kernel) rfl) ?_
  refine bz_ac (show bz_ok RX11 cX11_isFit 10 (bz_push (.int 10) 2) from bz_o_bipush (n := 10) (v := 10) (by decide +kernel) (by decide)) ?_
  refine bz_ac (show bz_ok RX11 cX11_isFit 12 (bz_idiv) from bz_o_idiv (by decide +kernel)) ?_
  refine bz_ac (show bz_cok bz_P l RX11 cX11_isFit 4 93 13 mX11_isPocket 1 0 from bz_cS' (own := RX11) (idx := 85) (n := 1) bp_X11_isPocket bq_X11_isPocket (by decide +kernel) (bz_tb 819 (by decide +kernel) (by decide +kernel)) (bz_tb 820 (by decide +kernel) (by decide +kernel)) rfl (by decide) (by decide)) ?_
  refine bz_ac (show bz_ok RX11 cX11_isFit 16 (bz_if_ne 23) from bz_o_if_ne (off := 7) (t := 23) (by decide +kernel) (by decide)) ?_
  refine bz_ac (show bz_ok RX11 cX11_isFit 19 (bz_push (.int 1) 1) from bz_o_iconst (n := 1) (v := 1) (by decide +kernel) (by decide)) ?_
  refine bz_ac (show bz_ok RX11 cX11_isFit 20 (bz_goto 24) from bz_o_goto (off := 4) (t := 24) (by decide +kernel) (by decide)) ?_
  refine bz_ac (show bz_ok RX11 cX11_isFit 23 (bz_push (.int 0) 1) from bz_o_iconst (n := 0) (v := 0) (by decide +kernel) (by decide)) ?_
  refine bz_ac (show bz_ok RX11 cX11_isFit 24 (bz_istore 2 1) from bz_o_istore_n (k := 2) (i := 2) (by decide +kernel) rfl) ?_
  refine bz_ac (show bz_ok RX11 cX11_isFit 25 (bz_push (.int 0) 1) from bz_o_iconst (n := 0) (v := 0) (by decide +kernel) (by decide)) ?_
  refine bz_ac (show bz_ok RX11 cX11_isFit 26 (bz_istore 3 1) from bz_o_istore_n (k := 3) (i := 3) (by decide +kernel) rfl) ?_
  refine bz_ac (show bz_ok RX11 cX11_isFit 27 (bz_iload 3 1) from bz_o_iload_n (k := 3) (i := 3) (by decide +kernel) rfl) ?_
  refine bz_ac (show bz_ok RX11 cX11_isFit 28 (bz_aload 0 1) from bz_o_aload_n (k := 0) (i := 0) (by decide +kernel) rfl) ?_
  refine bz_ac (show bz_ok RX11 cX11_isFit 29 (bz_getI 10 6) from bz_o_getI (ci := 10) (k := 6) (idx := 289) (C := RX11) (T := TX11) (N := 42) rfl bh_10 rfl rfl (bz_tb 678 (by decide +kernel) (by decide +kernel)) (Or.inl rfl) (by decide +kernel)) ?_
  refine bz_ac (show bz_ok RX11 cX11_isFit 32 (bz_ic_ge 73) from bz_o_ic_ge (off := 41) (t := 73) (by decide +kernel) (by decide)) ?_
  refine bz_ac (show bz_ok RX11 cX11_isFit 35 (bz_iload 2 1) from bz_o_iload_n (k := 2) (i := 2) (by decide +kernel) rfl) ?_
  refine bz_ac (show bz_ok RX11 cX11_isFit 36 (bz_if_eq 73) from bz_o_if_eq (off := 37) (t := 73) (by decide +kernel) (by decide)) ?_
  refine bz_ac (show bz_ok RX11 cX11_isFit 39 (bz_iload 1 1) from bz_o_iload_n (k := 1) (i := 1) (by decide +kernel) rfl) ?_
  refine bz_ac (show bz_ok RX11 cX11_isFit 40 (bz_aload 0 1) from bz_o_aload_n (k := 0) (i := 0) (by decide +kernel) rfl) ?_
  refine bz_ac (show bz_ok RX11 cX11_isFit 41 (bz_getR 10 4) from bz_o_getR (ci := 10) (k := 4) (idx := 13) (C := RX11) (T := TX11) (N := 42) rfl bh_10 rfl rfl (bz_tb 676 (by decide +kernel) (by decide +kernel)) rfl (by decide +kernel)) ?_
  refine bz_ac (show bz_ok RX11 cX11_isFit 44 (bz_iload 3 1) from bz_o_iload_n (k := 3) (i := 3) (by decide +kernel) rfl) ?_
  refine bz_ac (show bz_ok RX11 cX11_isFit 45 (bz_iald) from bz_o_iald (by decide +kernel)) ?_
  refine bz_ac (show bz_cok bz_P l RX11 cX11_isFit 4 93 46 mX11_behindSteps 2 0 from bz_cS' (own := RX11) (idx := 268) (n := 2) bp_X11_behindSteps bq_X11_behindSteps (by decide +kernel) (bz_tb 976 (by decide +kernel) (by decide +kernel)) (bz_tb 977 (by decide +kernel) (by decide +kernel)) rfl (by decide) (by decide)) ?_
  refine bz_ac (show bz_ok RX11 cX11_isFit 49 (bz_push (.int 10) 2) from bz_o_bipush (n := 10) (v := 10) (by decide +kernel) (by decide)) ?_
  refine bz_ac (show bz_ok RX11 cX11_isFit 51 (bz_idiv) from bz_o_idiv (by decide +kernel)) ?_
  refine bz_ac (show bz_ok RX11 cX11_isFit 52 (bz_aload 0 1) from bz_o_aload_n (k := 0) (i := 0) (by decide +kernel) rfl) ?_
  refine bz_ac (show bz_ok RX11 cX11_isFit 53 (bz_getR 10 5) from bz_o_getR (ci := 10) (k := 5) (idx := 16) (C := RX11) (T := TX11) (N := 42) rfl bh_10 rfl rfl (bz_tb 677 (by decide +kernel) (by decide +kernel)) rfl (by decide +kernel)) ?_
  refine bz_ac (show bz_ok RX11 cX11_isFit 56 (bz_iload 3 1) from bz_o_iload_n (k := 3) (i := 3) (by decide +kernel) rfl) ?_
  refine bz_ac (show bz_ok RX11 cX11_isFit 57 (bz_iald) from bz_o_iald (by decide +kernel)) ?_
  refine bz_ac (show bz_ok RX11 cX11_isFit 58 (bz_ic_ne 65) from bz_o_ic_ne (off := 7) (t := 65) (by decide +kernel) (by decide)) ?_
  refine bz_ac (show bz_ok RX11 cX11_isFit 61 (bz_push (.int 1) 1) from bz_o_iconst (n := 1) (v := 1) (by decide +kernel) (by decide)) ?_
  refine bz_ac (show bz_ok RX11 cX11_isFit 62 (bz_goto 66) from bz_o_goto (off := 4) (t := 66) (by decide +kernel) (by decide)) ?_
  refine bz_ac (show bz_ok RX11 cX11_isFit 65 (bz_push (.int 0) 1) from bz_o_iconst (n := 0) (v := 0) (by decide +kernel) (by decide)) ?_
  refine bz_ac (show bz_ok RX11 cX11_isFit 66 (bz_istore 2 1) from bz_o_istore_n (k := 2) (i := 2) (by decide +kernel) rfl) ?_
  refine bz_ac (show bz_ok RX11 cX11_isFit 67 (bz_iinc 3 1) from bz_o_iinc (i := 3) (n := 1) (v := 1) (by decide +kernel) (by decide)) ?_
  refine bz_ac (show bz_ok RX11 cX11_isFit 70 (bz_goto 27) from bz_o_goto (off := (-43)) (t := 27) (by decide +kernel) (by decide)) ?_
  refine bz_ac (show bz_ok RX11 cX11_isFit 73 (bz_iload 2 1) from bz_o_iload_n (k := 2) (i := 2) (by decide +kernel) rfl) ?_
  refine bz_ac (show bz_rok cX11_isFit (some .boolean) 74 3 from Or.inr (Or.inr (Or.inr ⟨rfl, rfl, by decide +kernel⟩))) ?_
  exact bz_an
set_option maxRecDepth 100000 in
theorem bo_X11_findFits (l : Launch) : ∀ q ∈ bt_X11_findFits, bz_rw bz_P l bm_X11_findFits q := by
  refine bz_ac (show bz_ok RX11 cX11_findFits 0 (bz_aload 0 1) from bz_o_aload_n (k := 0) (i := 0) (by decide +kernel) rfl) ?_
  refine bz_ac (show bz_ok RX11 cX11_findFits 1 (bz_push (.int 0) 1) from bz_o_iconst (n := 0) (v := 0) (by decide +kernel) (by decide)) ?_
  refine bz_ac (show bz_ok RX11 cX11_findFits 2 (bz_putI 10 34) from bz_o_putI (ci := 10) (k := 34) (idx := 292) (C := RX11) (T := TX11) (N := 42) rfl bh_10 rfl rfl (bz_tb 706 (by decide +kernel) (by decide +kernel)) tyX11 tyX11_ok nmX11 rfl rfl rfl (by decide +kernel)) ?_
  refine bz_ac (show bz_ok RX11 cX11_findFits 5 (bz_push (.int 0) 1) from bz_o_iconst (n := 0) (v := 0) (by decide +kernel) (by decide)) ?_
  refine bz_ac (show bz_ok RX11 cX11_findFits 6 (bz_istore 1 1) from bz_o_istore_n (k := 1) (i := 1) (by decide +kernel) rfl) ?_
  refine bz_ac (show bz_ok RX11 cX11_findFits 7 (bz_iload 1 1) from bz_o_iload_n (k := 1) (i := 1) (by decide +kernel) rfl) ?_
  refine bz_ac (show bz_ok RX11 cX11_findFits 8 (bz_push (.int 450) 3) from bz_o_sipush (n := 450) (v := 450) (by decide +kernel) (by decide)) ?_
  refine bz_ac (show bz_ok RX11 cX11_findFits 11 (bz_ic_ge 58) from bz_o_ic_ge (off := 47) (t := 58) (by decide +kernel) (by decide)) ?_
  refine bz_ac (show bz_ok RX11 cX11_findFits 14 (bz_aload 0 1) from bz_o_aload_n (k := 0) (i := 0) (by decide +kernel) rfl) ?_
  refine bz_ac (show bz_ok RX11 cX11_findFits 15 (bz_iload 1 1) from bz_o_iload_n (k := 1) (i := 1) (by decide +kernel) rfl) ?_
  refine bz_ac (show bz_cok bz_P l RX11 cX11_findFits 5 116 16 mX11_isFit 2 11 from bz_cV' (own := RX11) (idx := 295) (ci := 10) (N := 42) (T := TX11) (n := 1) bp_X11_isFit bq_X11_isFit (by decide +kernel) (bz_tb 1022 (by decide +kernel) (by decide +kernel)) (bz_tb 1024 (by decide +kernel) (by decide +kernel)) (bz_tb 37 (by decide +kernel) (by decide +kernel)) rfl rfl (by decide) (by decide)) ?_
  refine bz_ac (show bz_ok RX11 cX11_findFits 19 (bz_if_eq 52) from bz_o_if_eq (off := 33) (t := 52) (by decide +kernel) (by decide)) ?_
  refine bz_ac (show bz_ok RX11 cX11_findFits 22 (bz_aload 0 1) from bz_o_aload_n (k := 0) (i := 0) (by decide +kernel) rfl) ?_
  refine bz_ac (show bz_ok RX11 cX11_findFits 23 (bz_getR 10 32) from bz_o_getR (ci := 10) (k := 32) (idx := 47) (C := RX11) (T := TX11) (N := 42) rfl bh_10 rfl rfl (bz_tb 704 (by decide +kernel) (by decide +kernel)) rfl (by decide +kernel)) ?_
  refine bz_ac (show bz_ok RX11 cX11_findFits 26 (bz_aload 0 1) from bz_o_aload_n (k := 0) (i := 0) (by decide +kernel) rfl) ?_
  refine bz_ac (show bz_ok RX11 cX11_findFits 27 (bz_getI 10 34) from bz_o_getI (ci := 10) (k := 34) (idx := 292) (C := RX11) (T := TX11) (N := 42) rfl bh_10 rfl rfl (bz_tb 706 (by decide +kernel) (by decide +kernel)) (Or.inl rfl) (by decide +kernel)) ?_
  refine bz_ac (show bz_ok RX11 cX11_findFits 30 (bz_iload 1 1) from bz_o_iload_n (k := 1) (i := 1) (by decide +kernel) rfl) ?_
  refine bz_ac (show bz_ok RX11 cX11_findFits 31 (bz_iast) from bz_o_iast (by decide +kernel)) ?_
  refine bz_ac (show bz_ok RX11 cX11_findFits 32 (bz_aload 0 1) from bz_o_aload_n (k := 0) (i := 0) (by decide +kernel) rfl) ?_
  refine bz_ac (show bz_ok RX11 cX11_findFits 33 (bz_getR 10 33) from bz_o_getR (ci := 10) (k := 33) (idx := 50) (C := RX11) (T := TX11) (N := 42) rfl bh_10 rfl rfl (bz_tb 705 (by decide +kernel) (by decide +kernel)) rfl (by decide +kernel)) ?_
  refine bz_ac (show bz_ok RX11 cX11_findFits 36 (bz_aload 0 1) from bz_o_aload_n (k := 0) (i := 0) (by decide +kernel) rfl) ?_
  refine bz_ac (show bz_ok RX11 cX11_findFits 37 (bz_getI 10 34) from bz_o_getI (ci := 10) (k := 34) (idx := 292) (C := RX11) (T := TX11) (N := 42) rfl bh_10 rfl rfl (bz_tb 706 (by decide +kernel) (by decide +kernel)) (Or.inl rfl) (by decide +kernel)) ?_
  refine bz_ac (show bz_ok RX11 cX11_findFits 40 (bz_iload 1 1) from bz_o_iload_n (k := 1) (i := 1) (by decide +kernel) rfl) ?_
  refine bz_ac (show bz_ok RX11 cX11_findFits 41 (bz_iast) from bz_o_iast (by decide +kernel)) ?_
  refine bz_ac (show bz_ok RX11 cX11_findFits 42 (bz_aload 0 1) from bz_o_aload_n (k := 0) (i := 0) (by decide +kernel) rfl) ?_
  refine bz_ac (show bz_ok RX11 cX11_findFits 43 (bz_dup) from bz_o_dup (by decide +kernel)) ?_
  refine bz_ac (show bz_ok RX11 cX11_findFits 44 (bz_getI 10 34) from bz_o_getI (ci := 10) (k := 34) (idx := 292) (C := RX11) (T := TX11) (N := 42) rfl bh_10 rfl rfl (bz_tb 706 (by decide +kernel) (by decide +kernel)) (Or.inl rfl) (by decide +kernel)) ?_
  refine bz_ac (show bz_ok RX11 cX11_findFits 47 (bz_push (.int 1) 1) from bz_o_iconst (n := 1) (v := 1) (by decide +kernel) (by decide)) ?_
  refine bz_ac (show bz_ok RX11 cX11_findFits 48 (bz_iadd) from bz_o_iadd (by decide +kernel)) ?_
  refine bz_ac (show bz_ok RX11 cX11_findFits 49 (bz_putI 10 34) from bz_o_putI (ci := 10) (k := 34) (idx := 292) (C := RX11) (T := TX11) (N := 42) rfl bh_10 rfl rfl (bz_tb 706 (by decide +kernel) (by decide +kernel)) tyX11 tyX11_ok nmX11 rfl rfl rfl (by decide +kernel)) ?_
  refine bz_ac (show bz_ok RX11 cX11_findFits 52 (bz_iinc 1 1) from bz_o_iinc (i := 1) (n := 1) (v := 1) (by decide +kernel) (by decide)) ?_
  refine bz_ac (show bz_ok RX11 cX11_findFits 55 (bz_goto 7) from bz_o_goto (off := (-48)) (t := 7) (by decide +kernel) (by decide)) ?_
  refine bz_ac (show bz_rok cX11_findFits none 58 0 from Or.inl ⟨rfl, rfl, by decide +kernel⟩) ?_
  exact bz_an
set_option maxRecDepth 100000 in
theorem bo_X11_sent (l : Launch) : ∀ q ∈ bt_X11_sent, bz_rw bz_P l bm_X11_sent q := by
  refine bz_ac (show bz_ok RX11 cX11_sent 0 (bz_aload 0 1) from bz_o_aload_n (k := 0) (i := 0) (by decide +kernel) rfl) ?_
  refine bz_ac (show bz_cok bz_P l RX11 cX11_sent 6 137 1 mX11_findFits 1 11 from bz_cV' (own := RX11) (idx := 298) (ci := 10) (N := 42) (T := TX11) (n := 0) bp_X11_findFits bq_X11_findFits (by decide +kernel) (bz_tb 1018 (by decide +kernel) (by decide +kernel)) (bz_tb 1020 (by decide +kernel) (by decide +kernel)) (bz_tb 36 (by decide +kernel) (by decide +kernel)) rfl rfl (by decide) (by decide)) ?_
  refine bz_ac (show bz_ok RX11 cX11_sent 4 (bz_iload 1 1) from bz_o_iload_n (k := 1) (i := 1) (by decide +kernel) rfl) ?_
  refine bz_ac (show bz_ok RX11 cX11_sent 5 (bz_push (.int (-1)) 1) from bz_o_iconst (n := (-1)) (v := (-1)) (by decide +kernel) (by decide)) ?_
  refine bz_ac (show bz_ok RX11 cX11_sent 6 (bz_ic_ne 16) from bz_o_ic_ne (off := 10) (t := 16) (by decide +kernel) (by decide)) ?_
  refine bz_ac (show bz_ok RX11 cX11_sent 9 (bz_aload 0 1) from bz_o_aload_n (k := 0) (i := 0) (by decide +kernel) rfl) ?_
  refine bz_ac (show bz_ok RX11 cX11_sent 10 (bz_getI 10 34) from bz_o_getI (ci := 10) (k := 34) (idx := 292) (C := RX11) (T := TX11) (N := 42) rfl bh_10 rfl rfl (bz_tb 706 (by decide +kernel) (by decide +kernel)) (Or.inl rfl) (by decide +kernel)) ?_
  refine bz_ac (show bz_ok RX11 cX11_sent 13 (bz_goto 43) from bz_o_goto (off := 30) (t := 43) (by decide +kernel) (by decide)) ?_
  refine bz_ac (show bz_ok RX11 cX11_sent 16 (bz_iload 1 1) from bz_o_iload_n (k := 1) (i := 1) (by decide +kernel) rfl) ?_
  refine bz_ac (show bz_ok RX11 cX11_sent 17 (bz_i2l) from bz_o_i2l (by decide +kernel)) ?_
  refine bz_ac (show bz_ok RX11 cX11_sent 18 (bz_push (.long 0) 1) from bz_o_lconst (n := 0) (v := 0) (by decide +kernel) (by decide)) ?_
  refine bz_ac (show bz_ok RX11 cX11_sent 19 (bz_aload 0 1) from bz_o_aload_n (k := 0) (i := 0) (by decide +kernel) rfl) ?_
  refine bz_ac (show bz_ok RX11 cX11_sent 20 (bz_getI 10 34) from bz_o_getI (ci := 10) (k := 34) (idx := 292) (C := RX11) (T := TX11) (N := 42) rfl bh_10 rfl rfl (bz_tb 706 (by decide +kernel) (by decide +kernel)) (Or.inl rfl) (by decide +kernel)) ?_
  refine bz_ac (show bz_ok RX11 cX11_sent 23 (bz_push (.int 1) 1) from bz_o_iconst (n := 1) (v := 1) (by decide +kernel) (by decide)) ?_
  refine bz_ac (show bz_ok RX11 cX11_sent 24 (bz_isub) from bz_o_isub (by decide +kernel)) ?_
  refine bz_ac (show bz_ok RX11 cX11_sent 25 (bz_i2l) from bz_o_i2l (by decide +kernel)) ?_
  refine bz_ac (show bz_cok bz_P l RX11 cX11_sent 6 137 26 mX11_in 3 0 from bz_cS' (own := RX11) (idx := 75) (n := 3) bp_X11_in bq_X11_in (by decide +kernel) (bz_tb 809 (by decide +kernel) (by decide +kernel)) (bz_tb 810 (by decide +kernel) (by decide +kernel)) rfl (by decide) (by decide)) ?_
  refine bz_ac (show bz_ok RX11 cX11_sent 29 (bz_if_eq 41) from bz_o_if_eq (off := 12) (t := 41) (by decide +kernel) (by decide)) ?_
  refine bz_ac (show bz_ok RX11 cX11_sent 32 (bz_aload 0 1) from bz_o_aload_n (k := 0) (i := 0) (by decide +kernel) rfl) ?_
  refine bz_ac (show bz_ok RX11 cX11_sent 33 (bz_getR 10 32) from bz_o_getR (ci := 10) (k := 32) (idx := 47) (C := RX11) (T := TX11) (N := 42) rfl bh_10 rfl rfl (bz_tb 704 (by decide +kernel) (by decide +kernel)) rfl (by decide +kernel)) ?_
  refine bz_ac (show bz_ok RX11 cX11_sent 36 (bz_iload 1 1) from bz_o_iload_n (k := 1) (i := 1) (by decide +kernel) rfl) ?_
  refine bz_ac (show bz_ok RX11 cX11_sent 37 (bz_iald) from bz_o_iald (by decide +kernel)) ?_
  refine bz_ac (show bz_ok RX11 cX11_sent 38 (bz_goto 43) from bz_o_goto (off := 5) (t := 43) (by decide +kernel) (by decide)) ?_
  refine bz_ac (show bz_ok RX11 cX11_sent 41 (bz_push (.int (-6)) 2) from bz_o_bipush (n := (-6)) (v := (-6)) (by decide +kernel) (by decide)) ?_
  refine bz_ac (show bz_rok cX11_sent (some .int) 43 1 from Or.inr (Or.inl ⟨rfl, rfl, by decide +kernel⟩)) ?_
  exact bz_an
set_option maxRecDepth 100000 in
theorem bo_X11_mostNow (l : Launch) : ∀ q ∈ bt_X11_mostNow, bz_rw bz_P l bm_X11_mostNow q := by
  refine bz_ac (show bz_ok RX11 cX11_mostNow 0 (bz_push (.int 0) 1) from bz_o_iconst (n := 0) (v := 0) (by decide +kernel) (by decide)) ?_
  refine bz_ac (show bz_ok RX11 cX11_mostNow 1 (bz_istore 1 1) from bz_o_istore_n (k := 1) (i := 1) (by decide +kernel) rfl) ?_
  refine bz_ac (show bz_ok RX11 cX11_mostNow 2 (bz_push (.int 0) 1) from bz_o_iconst (n := 0) (v := 0) (by decide +kernel) (by decide)) ?_
  refine bz_ac (show bz_ok RX11 cX11_mostNow 3 (bz_istore 2 1) from bz_o_istore_n (k := 2) (i := 2) (by decide +kernel) rfl) ?_
  refine bz_ac (show bz_ok RX11 cX11_mostNow 4 (bz_iload 2 1) from bz_o_iload_n (k := 2) (i := 2) (by decide +kernel) rfl) ?_
  refine bz_ac (show bz_ok RX11 cX11_mostNow 5 (bz_push (.int 45) 2) from bz_o_bipush (n := 45) (v := 45) (by decide +kernel) (by decide)) ?_
  refine bz_ac (show bz_ok RX11 cX11_mostNow 7 (bz_ic_ge 23) from bz_o_ic_ge (off := 16) (t := 23) (by decide +kernel) (by decide)) ?_
  refine bz_ac (show bz_ok RX11 cX11_mostNow 10 (bz_aload 0 1) from bz_o_aload_n (k := 0) (i := 0) (by decide +kernel) rfl) ?_
  refine bz_ac (show bz_ok RX11 cX11_mostNow 11 (bz_getR 10 35) from bz_o_getR (ci := 10) (k := 35) (idx := 53) (C := RX11) (T := TX11) (N := 42) rfl bh_10 rfl rfl (bz_tb 707 (by decide +kernel) (by decide +kernel)) rfl (by decide +kernel)) ?_
  refine bz_ac (show bz_ok RX11 cX11_mostNow 14 (bz_iload 2 1) from bz_o_iload_n (k := 2) (i := 2) (by decide +kernel) rfl) ?_
  refine bz_ac (show bz_ok RX11 cX11_mostNow 15 (bz_push (.int 0) 1) from bz_o_iconst (n := 0) (v := 0) (by decide +kernel) (by decide)) ?_
  refine bz_ac (show bz_ok RX11 cX11_mostNow 16 (bz_iast) from bz_o_iast (by decide +kernel)) ?_
  refine bz_ac (show bz_ok RX11 cX11_mostNow 17 (bz_iinc 2 1) from bz_o_iinc (i := 2) (n := 1) (v := 1) (by decide +kernel) (by decide)) ?_
  refine bz_ac (show bz_ok RX11 cX11_mostNow 20 (bz_goto 4) from bz_o_goto (off := (-16)) (t := 4) (by decide +kernel) (by decide)) ?_
  refine bz_ac (show bz_ok RX11 cX11_mostNow 23 (bz_push (.int 0) 1) from bz_o_iconst (n := 0) (v := 0) (by decide +kernel) (by decide)) ?_
  refine bz_ac (show bz_ok RX11 cX11_mostNow 24 (bz_istore 2 1) from bz_o_istore_n (k := 2) (i := 2) (by decide +kernel) rfl) ?_
  refine bz_ac (show bz_ok RX11 cX11_mostNow 25 (bz_iload 2 1) from bz_o_iload_n (k := 2) (i := 2) (by decide +kernel) rfl) ?_
  refine bz_ac (show bz_ok RX11 cX11_mostNow 26 (bz_aload 0 1) from bz_o_aload_n (k := 0) (i := 0) (by decide +kernel) rfl) ?_
  refine bz_ac (show bz_ok RX11 cX11_mostNow 27 (bz_getI 10 34) from bz_o_getI (ci := 10) (k := 34) (idx := 292) (C := RX11) (T := TX11) (N := 42) rfl bh_10 rfl rfl (bz_tb 706 (by decide +kernel) (by decide +kernel)) (Or.inl rfl) (by decide +kernel)) ?_
  refine bz_ac (show bz_ok RX11 cX11_mostNow 30 (bz_ic_ge 95) from bz_o_ic_ge (off := 65) (t := 95) (by decide +kernel) (by decide)) ?_
  refine bz_ac (show bz_ok RX11 cX11_mostNow 33 (bz_aload 0 1) from bz_o_aload_n (k := 0) (i := 0) (by decide +kernel) rfl) ?_
  refine bz_ac (show bz_ok RX11 cX11_mostNow 34 (bz_getR 10 33) from bz_o_getR (ci := 10) (k := 33) (idx := 50) (C := RX11) (T := TX11) (N := 42) rfl bh_10 rfl rfl (bz_tb 705 (by decide +kernel) (by decide +kernel)) rfl (by decide +kernel)) ?_
  refine bz_ac (show bz_ok RX11 cX11_mostNow 37 (bz_iload 2 1) from bz_o_iload_n (k := 2) (i := 2) (by decide +kernel) rfl) ?_
  refine bz_ac (show bz_ok RX11 cX11_mostNow 38 (bz_iald) from bz_o_iald (by decide +kernel)) ?_
  refine bz_ac (show bz_ok RX11 cX11_mostNow 39 (bz_push (.int 10) 2) from bz_o_bipush (n := 10) (v := 10) (by decide +kernel) (by decide)) ?_
  refine bz_ac (show bz_ok RX11 cX11_mostNow 41 (bz_idiv) from bz_o_idiv (by decide +kernel)) ?_
  refine bz_ac (show bz_ok RX11 cX11_mostNow 42 (bz_istore 3 1) from bz_o_istore_n (k := 3) (i := 3) (by decide +kernel) rfl) ?_
  refine bz_ac (show bz_ok RX11 cX11_mostNow 43 (bz_aload 0 1) from bz_o_aload_n (k := 0) (i := 0) (by decide +kernel) rfl) ?_
  refine bz_ac (show bz_ok RX11 cX11_mostNow 44 (bz_getR 10 35) from bz_o_getR (ci := 10) (k := 35) (idx := 53) (C := RX11) (T := TX11) (N := 42) rfl bh_10 rfl rfl (bz_tb 707 (by decide +kernel) (by decide +kernel)) rfl (by decide +kernel)) ?_
  refine bz_ac (show bz_ok RX11 cX11_mostNow 47 (bz_iload 3 1) from bz_o_iload_n (k := 3) (i := 3) (by decide +kernel) rfl) ?_
  refine bz_ac (show bz_ok RX11 cX11_mostNow 48 (bz_dup2) from bz_o_dup2 (by decide +kernel)) ?_
  refine bz_ac (show bz_ok RX11 cX11_mostNow 49 (bz_iald) from bz_o_iald (by decide +kernel)) ?_
  refine bz_ac (show bz_ok RX11 cX11_mostNow 50 (bz_push (.int 1) 1) from bz_o_iconst (n := 1) (v := 1) (by decide +kernel) (by decide)) ?_
  refine bz_ac (show bz_ok RX11 cX11_mostNow 51 (bz_iadd) from bz_o_iadd (by decide +kernel)) ?_
  refine bz_ac (show bz_ok RX11 cX11_mostNow 52 (bz_iast) from bz_o_iast (by decide +kernel)) ?_
  refine bz_ac (show bz_ok RX11 cX11_mostNow 53 (bz_aload 0 1) from bz_o_aload_n (k := 0) (i := 0) (by decide +kernel) rfl) ?_
  refine bz_ac (show bz_ok RX11 cX11_mostNow 54 (bz_getR 10 35) from bz_o_getR (ci := 10) (k := 35) (idx := 53) (C := RX11) (T := TX11) (N := 42) rfl bh_10 rfl rfl (bz_tb 707 (by decide +kernel) (by decide +kernel)) rfl (by decide +kernel)) ?_
  refine bz_ac (show bz_ok RX11 cX11_mostNow 57 (bz_iload 3 1) from bz_o_iload_n (k := 3) (i := 3) (by decide +kernel) rfl) ?_
  refine bz_ac (show bz_ok RX11 cX11_mostNow 58 (bz_iald) from bz_o_iald (by decide +kernel)) ?_
  refine bz_ac (show bz_ok RX11 cX11_mostNow 59 (bz_iload 1 1) from bz_o_iload_n (k := 1) (i := 1) (by decide +kernel) rfl) ?_
  refine bz_ac (show bz_ok RX11 cX11_mostNow 60 (bz_ic_le 72) from bz_o_ic_le (off := 12) (t := 72) (by decide +kernel) (by decide)) ?_
  refine bz_ac (show bz_ok RX11 cX11_mostNow 63 (bz_aload 0 1) from bz_o_aload_n (k := 0) (i := 0) (by decide +kernel) rfl) ?_
  refine bz_ac (show bz_ok RX11 cX11_mostNow 64 (bz_getR 10 35) from bz_o_getR (ci := 10) (k := 35) (idx := 53) (C := RX11) (T := TX11) (N := 42) rfl bh_10 rfl rfl (bz_tb 707 (by decide +kernel) (by decide +kernel)) rfl (by decide +kernel)) ?_
  refine bz_ac (show bz_ok RX11 cX11_mostNow 67 (bz_iload 3 1) from bz_o_iload_n (k := 3) (i := 3) (by decide +kernel) rfl) ?_
  refine bz_ac (show bz_ok RX11 cX11_mostNow 68 (bz_iald) from bz_o_iald (by decide +kernel)) ?_
  refine bz_ac (show bz_ok RX11 cX11_mostNow 69 (bz_goto 73) from bz_o_goto (off := 4) (t := 73) (by decide +kernel) (by decide)) ?_
  refine bz_ac (show bz_ok RX11 cX11_mostNow 72 (bz_iload 1 1) from bz_o_iload_n (k := 1) (i := 1) (by decide +kernel) rfl) ?_
  refine bz_ac (show bz_ok RX11 cX11_mostNow 73 (bz_istore 1 1) from bz_o_istore_n (k := 1) (i := 1) (by decide +kernel) rfl) ?_
  refine bz_ac (show bz_ok RX11 cX11_mostNow 74 (bz_aload 0 1) from bz_o_aload_n (k := 0) (i := 0) (by decide +kernel) rfl) ?_
  refine bz_ac (show bz_ok RX11 cX11_mostNow 75 (bz_getR 10 33) from bz_o_getR (ci := 10) (k := 33) (idx := 50) (C := RX11) (T := TX11) (N := 42) rfl bh_10 rfl rfl (bz_tb 705 (by decide +kernel) (by decide +kernel)) rfl (by decide +kernel)) ?_
  refine bz_ac (show bz_ok RX11 cX11_mostNow 78 (bz_iload 2 1) from bz_o_iload_n (k := 2) (i := 2) (by decide +kernel) rfl) ?_
  refine bz_ac (show bz_ok RX11 cX11_mostNow 79 (bz_aload 0 1) from bz_o_aload_n (k := 0) (i := 0) (by decide +kernel) rfl) ?_
  refine bz_ac (show bz_ok RX11 cX11_mostNow 80 (bz_getR 10 33) from bz_o_getR (ci := 10) (k := 33) (idx := 50) (C := RX11) (T := TX11) (N := 42) rfl bh_10 rfl rfl (bz_tb 705 (by decide +kernel) (by decide +kernel)) rfl (by decide +kernel)) ?_
  refine bz_ac (show bz_ok RX11 cX11_mostNow 83 (bz_iload 2 1) from bz_o_iload_n (k := 2) (i := 2) (by decide +kernel) rfl) ?_
  refine bz_ac (show bz_ok RX11 cX11_mostNow 84 (bz_iald) from bz_o_iald (by decide +kernel)) ?_
  refine bz_ac (show bz_cok bz_P l RX11 cX11_mostNow 3 70 85 mX11_next 1 0 from bz_cS' (own := RX11) (idx := 261) (n := 1) bp_X11_next bq_X11_next (by decide +kernel) (bz_tb 979 (by decide +kernel) (by decide +kernel)) (bz_tb 980 (by decide +kernel) (by decide +kernel)) rfl (by decide) (by decide)) ?_
  refine bz_ac (show bz_ok RX11 cX11_mostNow 88 (bz_iast) from bz_o_iast (by decide +kernel)) ?_
  refine bz_ac (show bz_ok RX11 cX11_mostNow 89 (bz_iinc 2 1) from bz_o_iinc (i := 2) (n := 1) (v := 1) (by decide +kernel) (by decide)) ?_
  refine bz_ac (show bz_ok RX11 cX11_mostNow 92 (bz_goto 25) from bz_o_goto (off := (-67)) (t := 25) (by decide +kernel) (by decide)) ?_
  refine bz_ac (show bz_ok RX11 cX11_mostNow 95 (bz_iload 1 1) from bz_o_iload_n (k := 1) (i := 1) (by decide +kernel) rfl) ?_
  refine bz_ac (show bz_rok cX11_mostNow (some .int) 96 1 from Or.inr (Or.inl ⟨rfl, rfl, by decide +kernel⟩)) ?_
  exact bz_an
set_option maxRecDepth 100000 in
theorem bo_X11_ask (l : Launch) : ∀ q ∈ bt_X11_ask, bz_rw bz_P l bm_X11_ask q := by
  refine bz_ac (show bz_ok RX11 cX11_ask 0 (bz_iload 1 1) from bz_o_iload_n (k := 1) (i := 1) (by decide +kernel) rfl) ?_
  refine bz_ac (show bz_ok RX11 cX11_ask 1 (bz_i2l) from bz_o_i2l (by decide +kernel)) ?_
  refine bz_ac (show bz_ok RX11 cX11_ask 2 (bz_push (.long 0) 1) from bz_o_lconst (n := 0) (v := 0) (by decide +kernel) (by decide)) ?_
  refine bz_ac (show bz_ok RX11 cX11_ask 3 (bz_push (.long 1) 1) from bz_o_lconst (n := 1) (v := 1) (by decide +kernel) (by decide)) ?_
  refine bz_ac (show bz_cok bz_P l RX11 cX11_ask 6 137 4 mX11_in 3 0 from bz_cS' (own := RX11) (idx := 75) (n := 3) bp_X11_in bq_X11_in (by decide +kernel) (bz_tb 809 (by decide +kernel) (by decide +kernel)) (bz_tb 810 (by decide +kernel) (by decide +kernel)) rfl (by decide) (by decide)) ?_
  refine bz_ac (show bz_ok RX11 cX11_ask 7 (bz_if_ne 13) from bz_o_if_ne (off := 6) (t := 13) (by decide +kernel) (by decide)) ?_
  refine bz_ac (show bz_ok RX11 cX11_ask 10 (bz_push (.int (-2)) 2) from bz_o_bipush (n := (-2)) (v := (-2)) (by decide +kernel) (by decide)) ?_
  refine bz_ac (show bz_rok cX11_ask (some .int) 12 1 from Or.inr (Or.inl ⟨rfl, rfl, by decide +kernel⟩)) ?_
  refine bz_ac (show bz_ok RX11 cX11_ask 13 (bz_aload 0 1) from bz_o_aload_n (k := 0) (i := 0) (by decide +kernel) rfl) ?_
  refine bz_ac (show bz_cok bz_P l RX11 cX11_ask 6 137 14 mX11_findFits 1 11 from bz_cV' (own := RX11) (idx := 298) (ci := 10) (N := 42) (T := TX11) (n := 0) bp_X11_findFits bq_X11_findFits (by decide +kernel) (bz_tb 1018 (by decide +kernel) (by decide +kernel)) (bz_tb 1020 (by decide +kernel) (by decide +kernel)) (bz_tb 36 (by decide +kernel) (by decide +kernel)) rfl rfl (by decide) (by decide)) ?_
  refine bz_ac (show bz_ok RX11 cX11_ask 17 (bz_push (.int (-6)) 2) from bz_o_bipush (n := (-6)) (v := (-6)) (by decide +kernel) (by decide)) ?_
  refine bz_ac (show bz_ok RX11 cX11_ask 19 (bz_istore 2 1) from bz_o_istore_n (k := 2) (i := 2) (by decide +kernel) rfl) ?_
  refine bz_ac (show bz_ok RX11 cX11_ask 20 (bz_aload 0 1) from bz_o_aload_n (k := 0) (i := 0) (by decide +kernel) rfl) ?_
  refine bz_ac (show bz_ok RX11 cX11_ask 21 (bz_getI 10 34) from bz_o_getI (ci := 10) (k := 34) (idx := 292) (C := RX11) (T := TX11) (N := 42) rfl bh_10 rfl rfl (bz_tb 706 (by decide +kernel) (by decide +kernel)) (Or.inl rfl) (by decide +kernel)) ?_
  refine bz_ac (show bz_ok RX11 cX11_ask 24 (bz_push (.int 1) 1) from bz_o_iconst (n := 1) (v := 1) (by decide +kernel) (by decide)) ?_
  refine bz_ac (show bz_ok RX11 cX11_ask 25 (bz_iadd) from bz_o_iadd (by decide +kernel)) ?_
  refine bz_ac (show bz_ok RX11 cX11_ask 26 (bz_istore 3 1) from bz_o_istore_n (k := 3) (i := 3) (by decide +kernel) rfl) ?_
  refine bz_ac (show bz_ok RX11 cX11_ask 27 (bz_push (.int 0) 1) from bz_o_iconst (n := 0) (v := 0) (by decide +kernel) (by decide)) ?_
  refine bz_ac (show bz_ok RX11 cX11_ask 28 (bz_istore 4 2) from bz_o_istore (i := 4) (by decide +kernel)) ?_
  refine bz_ac (show bz_ok RX11 cX11_ask 30 (bz_iload 4 2) from bz_o_iload (i := 4) (by decide +kernel)) ?_
  refine bz_ac (show bz_ok RX11 cX11_ask 32 (bz_push (.int 60) 2) from bz_o_bipush (n := 60) (v := 60) (by decide +kernel) (by decide)) ?_
  refine bz_ac (show bz_ok RX11 cX11_ask 34 (bz_ic_gt 82) from bz_o_ic_gt (off := 48) (t := 82) (by decide +kernel) (by decide)) ?_
  refine bz_ac (show bz_ok RX11 cX11_ask 37 (bz_aload 0 1) from bz_o_aload_n (k := 0) (i := 0) (by decide +kernel) rfl) ?_
  refine bz_ac (show bz_ok RX11 cX11_ask 38 (bz_getI 10 34) from bz_o_getI (ci := 10) (k := 34) (idx := 292) (C := RX11) (T := TX11) (N := 42) rfl bh_10 rfl rfl (bz_tb 706 (by decide +kernel) (by decide +kernel)) (Or.inl rfl) (by decide +kernel)) ?_
  refine bz_ac (show bz_ok RX11 cX11_ask 41 (bz_if_le 82) from bz_o_if_le (off := 41) (t := 82) (by decide +kernel) (by decide)) ?_
  refine bz_ac (show bz_ok RX11 cX11_ask 44 (bz_aload 0 1) from bz_o_aload_n (k := 0) (i := 0) (by decide +kernel) rfl) ?_
  refine bz_ac (show bz_cok bz_P l RX11 cX11_ask 6 137 45 mX11_mostNow 1 11 from bz_cV' (own := RX11) (idx := 301) (ci := 10) (N := 42) (T := TX11) (n := 0) bp_X11_mostNow bq_X11_mostNow (by decide +kernel) (bz_tb 1030 (by decide +kernel) (by decide +kernel)) (bz_tb 1032 (by decide +kernel) (by decide +kernel)) (bz_tb 38 (by decide +kernel) (by decide +kernel)) rfl rfl (by decide) (by decide)) ?_
  refine bz_ac (show bz_ok RX11 cX11_ask 48 (bz_istore 5 2) from bz_o_istore (i := 5) (by decide +kernel)) ?_
  refine bz_ac (show bz_ok RX11 cX11_ask 50 (bz_iload 5 2) from bz_o_iload (i := 5) (by decide +kernel)) ?_
  refine bz_ac (show bz_ok RX11 cX11_ask 52 (bz_iload 3 1) from bz_o_iload_n (k := 3) (i := 3) (by decide +kernel) rfl) ?_
  refine bz_ac (show bz_ok RX11 cX11_ask 53 (bz_ic_ge 61) from bz_o_ic_ge (off := 8) (t := 61) (by decide +kernel) (by decide)) ?_
  refine bz_ac (show bz_ok RX11 cX11_ask 56 (bz_iload 4 2) from bz_o_iload (i := 4) (by decide +kernel)) ?_
  refine bz_ac (show bz_ok RX11 cX11_ask 58 (bz_goto 62) from bz_o_goto (off := 4) (t := 62) (by decide +kernel) (by decide)) ?_
  refine bz_ac (show bz_ok RX11 cX11_ask 61 (bz_iload 2 1) from bz_o_iload_n (k := 2) (i := 2) (by decide +kernel) rfl) ?_
  refine bz_ac (show bz_ok RX11 cX11_ask 62 (bz_istore 2 1) from bz_o_istore_n (k := 2) (i := 2) (by decide +kernel) rfl) ?_
  refine bz_ac (show bz_ok RX11 cX11_ask 63 (bz_iload 5 2) from bz_o_iload (i := 5) (by decide +kernel)) ?_
  refine bz_ac (show bz_ok RX11 cX11_ask 65 (bz_iload 3 1) from bz_o_iload_n (k := 3) (i := 3) (by decide +kernel) rfl) ?_
  refine bz_ac (show bz_ok RX11 cX11_ask 66 (bz_ic_ge 74) from bz_o_ic_ge (off := 8) (t := 74) (by decide +kernel) (by decide)) ?_
  refine bz_ac (show bz_ok RX11 cX11_ask 69 (bz_iload 5 2) from bz_o_iload (i := 5) (by decide +kernel)) ?_
  refine bz_ac (show bz_ok RX11 cX11_ask 71 (bz_goto 75) from bz_o_goto (off := 4) (t := 75) (by decide +kernel) (by decide)) ?_
  refine bz_ac (show bz_ok RX11 cX11_ask 74 (bz_iload 3 1) from bz_o_iload_n (k := 3) (i := 3) (by decide +kernel) rfl) ?_
  refine bz_ac (show bz_ok RX11 cX11_ask 75 (bz_istore 3 1) from bz_o_istore_n (k := 3) (i := 3) (by decide +kernel) rfl) ?_
  refine bz_ac (show bz_ok RX11 cX11_ask 76 (bz_iinc 4 1) from bz_o_iinc (i := 4) (n := 1) (v := 1) (by decide +kernel) (by decide)) ?_
  refine bz_ac (show bz_ok RX11 cX11_ask 79 (bz_goto 30) from bz_o_goto (off := (-49)) (t := 30) (by decide +kernel) (by decide)) ?_
  refine bz_ac (show bz_ok RX11 cX11_ask 82 (bz_iload 2 1) from bz_o_iload_n (k := 2) (i := 2) (by decide +kernel) rfl) ?_
  refine bz_ac (show bz_ok RX11 cX11_ask 83 (bz_if_lt 90) from bz_o_if_lt (off := 7) (t := 90) (by decide +kernel) (by decide)) ?_
  refine bz_ac (show bz_ok RX11 cX11_ask 86 (bz_iload 1 1) from bz_o_iload_n (k := 1) (i := 1) (by decide +kernel) rfl) ?_
  refine bz_ac (show bz_ok RX11 cX11_ask 87 (bz_if_ne 94) from bz_o_if_ne (off := 7) (t := 94) (by decide +kernel) (by decide)) ?_
  refine bz_ac (show bz_ok RX11 cX11_ask 90 (bz_iload 2 1) from bz_o_iload_n (k := 2) (i := 2) (by decide +kernel) rfl) ?_
  refine bz_ac (show bz_ok RX11 cX11_ask 91 (bz_goto 95) from bz_o_goto (off := 4) (t := 95) (by decide +kernel) (by decide)) ?_
  refine bz_ac (show bz_ok RX11 cX11_ask 94 (bz_iload 3 1) from bz_o_iload_n (k := 3) (i := 3) (by decide +kernel) rfl) ?_
  refine bz_ac (show bz_rok cX11_ask (some .int) 95 1 from Or.inr (Or.inl ⟨rfl, rfl, by decide +kernel⟩)) ?_
  exact bz_an
set_option maxRecDepth 100000 in
theorem bo_X11_digit (l : Launch) : ∀ q ∈ bt_X11_digit, bz_rw bz_P l bm_X11_digit q := by
  refine bz_ac (show bz_ok RX11 cX11_digit 0 (bz_iload 1 1) from bz_o_iload_n (k := 1) (i := 1) (by decide +kernel) rfl) ?_
  refine bz_ac (show bz_ok RX11 cX11_digit 1 (bz_if_ne 11) from bz_o_if_ne (off := 10) (t := 11) (by decide +kernel) (by decide)) ?_
  refine bz_ac (show bz_ok RX11 cX11_digit 4 (bz_iload 0 1) from bz_o_iload_n (k := 0) (i := 0) (by decide +kernel) rfl) ?_
  refine bz_ac (show bz_ok RX11 cX11_digit 5 (bz_push (.int 100) 2) from bz_o_bipush (n := 100) (v := 100) (by decide +kernel) (by decide)) ?_
  refine bz_ac (show bz_ok RX11 cX11_digit 7 (bz_idiv) from bz_o_idiv (by decide +kernel)) ?_
  refine bz_ac (show bz_ok RX11 cX11_digit 8 (bz_goto 30) from bz_o_goto (off := 22) (t := 30) (by decide +kernel) (by decide)) ?_
  refine bz_ac (show bz_ok RX11 cX11_digit 11 (bz_iload 1 1) from bz_o_iload_n (k := 1) (i := 1) (by decide +kernel) rfl) ?_
  refine bz_ac (show bz_ok RX11 cX11_digit 12 (bz_push (.int 1) 1) from bz_o_iconst (n := 1) (v := 1) (by decide +kernel) (by decide)) ?_
  refine bz_ac (show bz_ok RX11 cX11_digit 13 (bz_ic_ne 26) from bz_o_ic_ne (off := 13) (t := 26) (by decide +kernel) (by decide)) ?_
  refine bz_ac (show bz_ok RX11 cX11_digit 16 (bz_iload 0 1) from bz_o_iload_n (k := 0) (i := 0) (by decide +kernel) rfl) ?_
  refine bz_ac (show bz_ok RX11 cX11_digit 17 (bz_push (.int 10) 2) from bz_o_bipush (n := 10) (v := 10) (by decide +kernel) (by decide)) ?_
  refine bz_ac (show bz_ok RX11 cX11_digit 19 (bz_idiv) from bz_o_idiv (by decide +kernel)) ?_
  refine bz_ac (show bz_ok RX11 cX11_digit 20 (bz_push (.int 10) 2) from bz_o_bipush (n := 10) (v := 10) (by decide +kernel) (by decide)) ?_
  refine bz_ac (show bz_ok RX11 cX11_digit 22 (bz_irem) from bz_o_irem (by decide +kernel)) ?_
  refine bz_ac (show bz_ok RX11 cX11_digit 23 (bz_goto 30) from bz_o_goto (off := 7) (t := 30) (by decide +kernel) (by decide)) ?_
  refine bz_ac (show bz_ok RX11 cX11_digit 26 (bz_iload 0 1) from bz_o_iload_n (k := 0) (i := 0) (by decide +kernel) rfl) ?_
  refine bz_ac (show bz_ok RX11 cX11_digit 27 (bz_push (.int 10) 2) from bz_o_bipush (n := 10) (v := 10) (by decide +kernel) (by decide)) ?_
  refine bz_ac (show bz_ok RX11 cX11_digit 29 (bz_irem) from bz_o_irem (by decide +kernel)) ?_
  refine bz_ac (show bz_rok cX11_digit (some .int) 30 1 from Or.inr (Or.inl ⟨rfl, rfl, by decide +kernel⟩)) ?_
  exact bz_an
set_option maxRecDepth 100000 in
theorem bo_X11_tenTo (l : Launch) : ∀ q ∈ bt_X11_tenTo, bz_rw bz_P l bm_X11_tenTo q := by
  refine bz_ac (show bz_ok RX11 cX11_tenTo 0 (bz_iload 0 1) from bz_o_iload_n (k := 0) (i := 0) (by decide +kernel) rfl) ?_
  refine bz_ac (show bz_ok RX11 cX11_tenTo 1 (bz_if_ne 9) from bz_o_if_ne (off := 8) (t := 9) (by decide +kernel) (by decide)) ?_
  refine bz_ac (show bz_ok RX11 cX11_tenTo 4 (bz_push (.int 100) 2) from bz_o_bipush (n := 100) (v := 100) (by decide +kernel) (by decide)) ?_
  refine bz_ac (show bz_ok RX11 cX11_tenTo 6 (bz_goto 20) from bz_o_goto (off := 14) (t := 20) (by decide +kernel) (by decide)) ?_
  refine bz_ac (show bz_ok RX11 cX11_tenTo 9 (bz_iload 0 1) from bz_o_iload_n (k := 0) (i := 0) (by decide +kernel) rfl) ?_
  refine bz_ac (show bz_ok RX11 cX11_tenTo 10 (bz_push (.int 1) 1) from bz_o_iconst (n := 1) (v := 1) (by decide +kernel) (by decide)) ?_
  refine bz_ac (show bz_ok RX11 cX11_tenTo 11 (bz_ic_ne 19) from bz_o_ic_ne (off := 8) (t := 19) (by decide +kernel) (by decide)) ?_
  refine bz_ac (show bz_ok RX11 cX11_tenTo 14 (bz_push (.int 10) 2) from bz_o_bipush (n := 10) (v := 10) (by decide +kernel) (by decide)) ?_
  refine bz_ac (show bz_ok RX11 cX11_tenTo 16 (bz_goto 20) from bz_o_goto (off := 4) (t := 20) (by decide +kernel) (by decide)) ?_
  refine bz_ac (show bz_ok RX11 cX11_tenTo 19 (bz_push (.int 1) 1) from bz_o_iconst (n := 1) (v := 1) (by decide +kernel) (by decide)) ?_
  refine bz_ac (show bz_rok cX11_tenTo (some .int) 20 1 from Or.inr (Or.inl ⟨rfl, rfl, by decide +kernel⟩)) ?_
  exact bz_an
set_option maxRecDepth 100000 in
theorem bo_X11_leastTake (l : Launch) : ∀ q ∈ bt_X11_leastTake, bz_rw bz_P l bm_X11_leastTake q := by
  refine bz_ac (show bz_ok RX11 cX11_leastTake 0 (bz_iload 2 1) from bz_o_iload_n (k := 2) (i := 2) (by decide +kernel) rfl) ?_
  refine bz_ac (show bz_ok RX11 cX11_leastTake 1 (bz_push (.int 1) 1) from bz_o_iconst (n := 1) (v := 1) (by decide +kernel) (by decide)) ?_
  refine bz_ac (show bz_ok RX11 cX11_leastTake 2 (bz_ic_ne 25) from bz_o_ic_ne (off := 23) (t := 25) (by decide +kernel) (by decide)) ?_
  refine bz_ac (show bz_ok RX11 cX11_leastTake 5 (bz_iload 1 1) from bz_o_iload_n (k := 1) (i := 1) (by decide +kernel) rfl) ?_
  refine bz_ac (show bz_ok RX11 cX11_leastTake 6 (bz_if_le 25) from bz_o_if_le (off := 19) (t := 25) (by decide +kernel) (by decide)) ?_
  refine bz_ac (show bz_ok RX11 cX11_leastTake 9 (bz_aload 0 1) from bz_o_aload_n (k := 0) (i := 0) (by decide +kernel) rfl) ?_
  refine bz_ac (show bz_ok RX11 cX11_leastTake 10 (bz_getR 10 36) from bz_o_getR (ci := 10) (k := 36) (idx := 56) (C := RX11) (T := TX11) (N := 42) rfl bh_10 rfl rfl (bz_tb 708 (by decide +kernel) (by decide +kernel)) rfl (by decide +kernel)) ?_
  refine bz_ac (show bz_ok RX11 cX11_leastTake 13 (bz_push (.int 2) 1) from bz_o_iconst (n := 2) (v := 2) (by decide +kernel) (by decide)) ?_
  refine bz_ac (show bz_ok RX11 cX11_leastTake 14 (bz_iload 1 1) from bz_o_iload_n (k := 1) (i := 1) (by decide +kernel) rfl) ?_
  refine bz_ac (show bz_ok RX11 cX11_leastTake 15 (bz_imul) from bz_o_imul (by decide +kernel)) ?_
  refine bz_ac (show bz_ok RX11 cX11_leastTake 16 (bz_zald) from bz_o_zald (by decide +kernel)) ?_
  refine bz_ac (show bz_ok RX11 cX11_leastTake 17 (bz_if_ne 25) from bz_o_if_ne (off := 8) (t := 25) (by decide +kernel) (by decide)) ?_
  refine bz_ac (show bz_ok RX11 cX11_leastTake 20 (bz_push (.int 99) 2) from bz_o_bipush (n := 99) (v := 99) (by decide +kernel) (by decide)) ?_
  refine bz_ac (show bz_ok RX11 cX11_leastTake 22 (bz_goto 27) from bz_o_goto (off := 5) (t := 27) (by decide +kernel) (by decide)) ?_
  refine bz_ac (show bz_ok RX11 cX11_leastTake 25 (bz_push (.int (-6)) 2) from bz_o_bipush (n := (-6)) (v := (-6)) (by decide +kernel) (by decide)) ?_
  refine bz_ac (show bz_ok RX11 cX11_leastTake 27 (bz_istore 3 1) from bz_o_istore_n (k := 3) (i := 3) (by decide +kernel) rfl) ?_
  refine bz_ac (show bz_ok RX11 cX11_leastTake 28 (bz_push (.int 2) 1) from bz_o_iconst (n := 2) (v := 2) (by decide +kernel) (by decide)) ?_
  refine bz_ac (show bz_ok RX11 cX11_leastTake 29 (bz_istore 4 2) from bz_o_istore (i := 4) (by decide +kernel)) ?_
  refine bz_ac (show bz_ok RX11 cX11_leastTake 31 (bz_iload 4 2) from bz_o_iload (i := 4) (by decide +kernel)) ?_
  refine bz_ac (show bz_ok RX11 cX11_leastTake 33 (bz_if_lt 100) from bz_o_if_lt (off := 67) (t := 100) (by decide +kernel) (by decide)) ?_
  refine bz_ac (show bz_ok RX11 cX11_leastTake 36 (bz_iload 1 1) from bz_o_iload_n (k := 1) (i := 1) (by decide +kernel) rfl) ?_
  refine bz_ac (show bz_ok RX11 cX11_leastTake 37 (bz_iload 4 2) from bz_o_iload (i := 4) (by decide +kernel)) ?_
  refine bz_ac (show bz_cok bz_P l RX11 cX11_leastTake 1 21 39 mX11_digit 2 0 from bz_cS' (own := RX11) (idx := 304) (n := 2) bp_X11_digit bq_X11_digit (by decide +kernel) (bz_tb 1043 (by decide +kernel) (by decide +kernel)) (bz_tb 1044 (by decide +kernel) (by decide +kernel)) rfl (by decide) (by decide)) ?_
  refine bz_ac (show bz_ok RX11 cX11_leastTake 42 (bz_istore 5 2) from bz_o_istore (i := 5) (by decide +kernel)) ?_
  refine bz_ac (show bz_ok RX11 cX11_leastTake 44 (bz_iload 5 2) from bz_o_iload (i := 5) (by decide +kernel)) ?_
  refine bz_ac (show bz_ok RX11 cX11_leastTake 46 (bz_if_le 94) from bz_o_if_le (off := 48) (t := 94) (by decide +kernel) (by decide)) ?_
  refine bz_ac (show bz_ok RX11 cX11_leastTake 49 (bz_iload 1 1) from bz_o_iload_n (k := 1) (i := 1) (by decide +kernel) rfl) ?_
  refine bz_ac (show bz_ok RX11 cX11_leastTake 50 (bz_iload 5 2) from bz_o_iload (i := 5) (by decide +kernel)) ?_
  refine bz_ac (show bz_ok RX11 cX11_leastTake 52 (bz_iload 4 2) from bz_o_iload (i := 4) (by decide +kernel)) ?_
  refine bz_ac (show bz_cok bz_P l RX11 cX11_leastTake 1 21 54 mX11_tenTo 1 0 from bz_cS' (own := RX11) (idx := 307) (n := 1) bp_X11_tenTo bq_X11_tenTo (by decide +kernel) (bz_tb 1046 (by decide +kernel) (by decide +kernel)) (bz_tb 1047 (by decide +kernel) (by decide +kernel)) rfl (by decide) (by decide)) ?_
  refine bz_ac (show bz_ok RX11 cX11_leastTake 57 (bz_imul) from bz_o_imul (by decide +kernel)) ?_
  refine bz_ac (show bz_ok RX11 cX11_leastTake 58 (bz_isub) from bz_o_isub (by decide +kernel)) ?_
  refine bz_ac (show bz_ok RX11 cX11_leastTake 59 (bz_istore 6 2) from bz_o_istore (i := 6) (by decide +kernel)) ?_
  refine bz_ac (show bz_ok RX11 cX11_leastTake 61 (bz_aload 0 1) from bz_o_aload_n (k := 0) (i := 0) (by decide +kernel) rfl) ?_
  refine bz_ac (show bz_ok RX11 cX11_leastTake 62 (bz_getR 10 36) from bz_o_getR (ci := 10) (k := 36) (idx := 56) (C := RX11) (T := TX11) (N := 42) rfl bh_10 rfl rfl (bz_tb 708 (by decide +kernel) (by decide +kernel)) rfl (by decide +kernel)) ?_
  refine bz_ac (show bz_ok RX11 cX11_leastTake 65 (bz_push (.int 2) 1) from bz_o_iconst (n := 2) (v := 2) (by decide +kernel) (by decide)) ?_
  refine bz_ac (show bz_ok RX11 cX11_leastTake 66 (bz_iload 6 2) from bz_o_iload (i := 6) (by decide +kernel)) ?_
  refine bz_ac (show bz_ok RX11 cX11_leastTake 68 (bz_imul) from bz_o_imul (by decide +kernel)) ?_
  refine bz_ac (show bz_ok RX11 cX11_leastTake 69 (bz_iload 2 1) from bz_o_iload_n (k := 2) (i := 2) (by decide +kernel) rfl) ?_
  refine bz_ac (show bz_ok RX11 cX11_leastTake 70 (bz_iadd) from bz_o_iadd (by decide +kernel)) ?_
  refine bz_ac (show bz_ok RX11 cX11_leastTake 71 (bz_zald) from bz_o_zald (by decide +kernel)) ?_
  refine bz_ac (show bz_ok RX11 cX11_leastTake 72 (bz_if_eq 79) from bz_o_if_eq (off := 7) (t := 79) (by decide +kernel) (by decide)) ?_
  refine bz_ac (show bz_ok RX11 cX11_leastTake 75 (bz_iload 3 1) from bz_o_iload_n (k := 3) (i := 3) (by decide +kernel) rfl) ?_
  refine bz_ac (show bz_ok RX11 cX11_leastTake 76 (bz_goto 87) from bz_o_goto (off := 11) (t := 87) (by decide +kernel) (by decide)) ?_
  refine bz_ac (show bz_ok RX11 cX11_leastTake 79 (bz_push (.int 10) 2) from bz_o_bipush (n := 10) (v := 10) (by decide +kernel) (by decide)) ?_
  refine bz_ac (show bz_ok RX11 cX11_leastTake 81 (bz_iload 4 2) from bz_o_iload (i := 4) (by decide +kernel)) ?_
  refine bz_ac (show bz_ok RX11 cX11_leastTake 83 (bz_imul) from bz_o_imul (by decide +kernel)) ?_
  refine bz_ac (show bz_ok RX11 cX11_leastTake 84 (bz_iload 5 2) from bz_o_iload (i := 5) (by decide +kernel)) ?_
  refine bz_ac (show bz_ok RX11 cX11_leastTake 86 (bz_iadd) from bz_o_iadd (by decide +kernel)) ?_
  refine bz_ac (show bz_ok RX11 cX11_leastTake 87 (bz_istore 3 1) from bz_o_istore_n (k := 3) (i := 3) (by decide +kernel) rfl) ?_
  refine bz_ac (show bz_ok RX11 cX11_leastTake 88 (bz_iinc 5 (-1)) from bz_o_iinc (i := 5) (n := (-1)) (v := (-1)) (by decide +kernel) (by decide)) ?_
  refine bz_ac (show bz_ok RX11 cX11_leastTake 91 (bz_goto 44) from bz_o_goto (off := (-47)) (t := 44) (by decide +kernel) (by decide)) ?_
  refine bz_ac (show bz_ok RX11 cX11_leastTake 94 (bz_iinc 4 (-1)) from bz_o_iinc (i := 4) (n := (-1)) (v := (-1)) (by decide +kernel) (by decide)) ?_
  refine bz_ac (show bz_ok RX11 cX11_leastTake 97 (bz_goto 31) from bz_o_goto (off := (-66)) (t := 31) (by decide +kernel) (by decide)) ?_
  refine bz_ac (show bz_ok RX11 cX11_leastTake 100 (bz_iload 3 1) from bz_o_iload_n (k := 3) (i := 3) (by decide +kernel) rfl) ?_
  refine bz_ac (show bz_rok cX11_leastTake (some .int) 101 1 from Or.inr (Or.inl ⟨rfl, rfl, by decide +kernel⟩)) ?_
  exact bz_an
set_option maxRecDepth 100000 in
theorem bo_X11_chalk (l : Launch) : ∀ q ∈ bt_X11_chalk, bz_rw bz_P l bm_X11_chalk q := by
  refine bz_ac (show bz_ok RX11 cX11_chalk 0 (bz_iload 1 1) from bz_o_iload_n (k := 1) (i := 1) (by decide +kernel) rfl) ?_
  refine bz_ac (show bz_ok RX11 cX11_chalk 1 (bz_i2l) from bz_o_i2l (by decide +kernel)) ?_
  refine bz_ac (show bz_ok RX11 cX11_chalk 2 (bz_push (.long 0) 1) from bz_o_lconst (n := 0) (v := 0) (by decide +kernel) (by decide)) ?_
  refine bz_ac (show bz_ok RX11 cX11_chalk 3 (bz_push (.long 999) 3) from bz_o_ldc2 (own := RX11) (i := 310) (v := 999) (by decide +kernel) (bz_tb 1038 (by decide +kernel) (by decide +kernel))) ?_
  refine bz_ac (show bz_cok bz_P l RX11 cX11_chalk 2 47 6 mX11_in 3 0 from bz_cS' (own := RX11) (idx := 75) (n := 3) bp_X11_in bq_X11_in (by decide +kernel) (bz_tb 809 (by decide +kernel) (by decide +kernel)) (bz_tb 810 (by decide +kernel) (by decide +kernel)) rfl (by decide) (by decide)) ?_
  refine bz_ac (show bz_ok RX11 cX11_chalk 9 (bz_if_eq 32) from bz_o_if_eq (off := 23) (t := 32) (by decide +kernel) (by decide)) ?_
  refine bz_ac (show bz_ok RX11 cX11_chalk 12 (bz_iload 2 1) from bz_o_iload_n (k := 2) (i := 2) (by decide +kernel) rfl) ?_
  refine bz_ac (show bz_ok RX11 cX11_chalk 13 (bz_i2l) from bz_o_i2l (by decide +kernel)) ?_
  refine bz_ac (show bz_ok RX11 cX11_chalk 14 (bz_push (.long 0) 1) from bz_o_lconst (n := 0) (v := 0) (by decide +kernel) (by decide)) ?_
  refine bz_ac (show bz_ok RX11 cX11_chalk 15 (bz_push (.long 1) 1) from bz_o_lconst (n := 1) (v := 1) (by decide +kernel) (by decide)) ?_
  refine bz_ac (show bz_cok bz_P l RX11 cX11_chalk 2 47 16 mX11_in 3 0 from bz_cS' (own := RX11) (idx := 75) (n := 3) bp_X11_in bq_X11_in (by decide +kernel) (bz_tb 809 (by decide +kernel) (by decide +kernel)) (bz_tb 810 (by decide +kernel) (by decide +kernel)) rfl (by decide) (by decide)) ?_
  refine bz_ac (show bz_ok RX11 cX11_chalk 19 (bz_if_eq 32) from bz_o_if_eq (off := 13) (t := 32) (by decide +kernel) (by decide)) ?_
  refine bz_ac (show bz_ok RX11 cX11_chalk 22 (bz_iload 3 1) from bz_o_iload_n (k := 3) (i := 3) (by decide +kernel) rfl) ?_
  refine bz_ac (show bz_ok RX11 cX11_chalk 23 (bz_i2l) from bz_o_i2l (by decide +kernel)) ?_
  refine bz_ac (show bz_ok RX11 cX11_chalk 24 (bz_push (.long 0) 1) from bz_o_lconst (n := 0) (v := 0) (by decide +kernel) (by decide)) ?_
  refine bz_ac (show bz_ok RX11 cX11_chalk 25 (bz_push (.long 1) 1) from bz_o_lconst (n := 1) (v := 1) (by decide +kernel) (by decide)) ?_
  refine bz_ac (show bz_cok bz_P l RX11 cX11_chalk 2 47 26 mX11_in 3 0 from bz_cS' (own := RX11) (idx := 75) (n := 3) bp_X11_in bq_X11_in (by decide +kernel) (bz_tb 809 (by decide +kernel) (by decide +kernel)) (bz_tb 810 (by decide +kernel) (by decide +kernel)) rfl (by decide) (by decide)) ?_
  refine bz_ac (show bz_ok RX11 cX11_chalk 29 (bz_if_ne 35) from bz_o_if_ne (off := 6) (t := 35) (by decide +kernel) (by decide)) ?_
  refine bz_ac (show bz_ok RX11 cX11_chalk 32 (bz_push (.int (-2)) 2) from bz_o_bipush (n := (-2)) (v := (-2)) (by decide +kernel) (by decide)) ?_
  refine bz_ac (show bz_rok cX11_chalk (some .int) 34 1 from Or.inr (Or.inl ⟨rfl, rfl, by decide +kernel⟩)) ?_
  refine bz_ac (show bz_ok RX11 cX11_chalk 35 (bz_push (.int 0) 1) from bz_o_iconst (n := 0) (v := 0) (by decide +kernel) (by decide)) ?_
  refine bz_ac (show bz_ok RX11 cX11_chalk 36 (bz_istore 4 2) from bz_o_istore (i := 4) (by decide +kernel)) ?_
  refine bz_ac (show bz_ok RX11 cX11_chalk 38 (bz_iload 4 2) from bz_o_iload (i := 4) (by decide +kernel)) ?_
  refine bz_ac (show bz_ok RX11 cX11_chalk 40 (bz_iload 1 1) from bz_o_iload_n (k := 1) (i := 1) (by decide +kernel) rfl) ?_
  refine bz_ac (show bz_ok RX11 cX11_chalk 41 (bz_ic_gt 100) from bz_o_ic_gt (off := 59) (t := 100) (by decide +kernel) (by decide)) ?_
  refine bz_ac (show bz_ok RX11 cX11_chalk 44 (bz_aload 0 1) from bz_o_aload_n (k := 0) (i := 0) (by decide +kernel) rfl) ?_
  refine bz_ac (show bz_ok RX11 cX11_chalk 45 (bz_getR 10 36) from bz_o_getR (ci := 10) (k := 36) (idx := 56) (C := RX11) (T := TX11) (N := 42) rfl bh_10 rfl rfl (bz_tb 708 (by decide +kernel) (by decide +kernel)) rfl (by decide +kernel)) ?_
  refine bz_ac (show bz_ok RX11 cX11_chalk 48 (bz_push (.int 2) 1) from bz_o_iconst (n := 2) (v := 2) (by decide +kernel) (by decide)) ?_
  refine bz_ac (show bz_ok RX11 cX11_chalk 49 (bz_iload 4 2) from bz_o_iload (i := 4) (by decide +kernel)) ?_
  refine bz_ac (show bz_ok RX11 cX11_chalk 51 (bz_imul) from bz_o_imul (by decide +kernel)) ?_
  refine bz_ac (show bz_ok RX11 cX11_chalk 52 (bz_aload 0 1) from bz_o_aload_n (k := 0) (i := 0) (by decide +kernel) rfl) ?_
  refine bz_ac (show bz_ok RX11 cX11_chalk 53 (bz_iload 4 2) from bz_o_iload (i := 4) (by decide +kernel)) ?_
  refine bz_ac (show bz_ok RX11 cX11_chalk 55 (bz_push (.int 0) 1) from bz_o_iconst (n := 0) (v := 0) (by decide +kernel) (by decide)) ?_
  refine bz_ac (show bz_cok bz_P l RX11 cX11_chalk 2 47 56 mX11_leastTake 3 11 from bz_cV' (own := RX11) (idx := 312) (ci := 10) (N := 42) (T := TX11) (n := 2) bp_X11_leastTake bq_X11_leastTake (by decide +kernel) (bz_tb 1039 (by decide +kernel) (by decide +kernel)) (bz_tb 1041 (by decide +kernel) (by decide +kernel)) (bz_tb 39 (by decide +kernel) (by decide +kernel)) rfl rfl (by decide) (by decide)) ?_
  refine bz_ac (show bz_ok RX11 cX11_chalk 59 (bz_if_lt 66) from bz_o_if_lt (off := 7) (t := 66) (by decide +kernel) (by decide)) ?_
  refine bz_ac (show bz_ok RX11 cX11_chalk 62 (bz_push (.int 1) 1) from bz_o_iconst (n := 1) (v := 1) (by decide +kernel) (by decide)) ?_
  refine bz_ac (show bz_ok RX11 cX11_chalk 63 (bz_goto 67) from bz_o_goto (off := 4) (t := 67) (by decide +kernel) (by decide)) ?_
  refine bz_ac (show bz_ok RX11 cX11_chalk 66 (bz_push (.int 0) 1) from bz_o_iconst (n := 0) (v := 0) (by decide +kernel) (by decide)) ?_
  refine bz_ac (show bz_ok RX11 cX11_chalk 67 (bz_zast) from bz_o_zast (by decide +kernel)) ?_
  refine bz_ac (show bz_ok RX11 cX11_chalk 68 (bz_aload 0 1) from bz_o_aload_n (k := 0) (i := 0) (by decide +kernel) rfl) ?_
  refine bz_ac (show bz_ok RX11 cX11_chalk 69 (bz_getR 10 36) from bz_o_getR (ci := 10) (k := 36) (idx := 56) (C := RX11) (T := TX11) (N := 42) rfl bh_10 rfl rfl (bz_tb 708 (by decide +kernel) (by decide +kernel)) rfl (by decide +kernel)) ?_
  refine bz_ac (show bz_ok RX11 cX11_chalk 72 (bz_push (.int 2) 1) from bz_o_iconst (n := 2) (v := 2) (by decide +kernel) (by decide)) ?_
  refine bz_ac (show bz_ok RX11 cX11_chalk 73 (bz_iload 4 2) from bz_o_iload (i := 4) (by decide +kernel)) ?_
  refine bz_ac (show bz_ok RX11 cX11_chalk 75 (bz_imul) from bz_o_imul (by decide +kernel)) ?_
  refine bz_ac (show bz_ok RX11 cX11_chalk 76 (bz_push (.int 1) 1) from bz_o_iconst (n := 1) (v := 1) (by decide +kernel) (by decide)) ?_
  refine bz_ac (show bz_ok RX11 cX11_chalk 77 (bz_iadd) from bz_o_iadd (by decide +kernel)) ?_
  refine bz_ac (show bz_ok RX11 cX11_chalk 78 (bz_aload 0 1) from bz_o_aload_n (k := 0) (i := 0) (by decide +kernel) rfl) ?_
  refine bz_ac (show bz_ok RX11 cX11_chalk 79 (bz_iload 4 2) from bz_o_iload (i := 4) (by decide +kernel)) ?_
  refine bz_ac (show bz_ok RX11 cX11_chalk 81 (bz_push (.int 1) 1) from bz_o_iconst (n := 1) (v := 1) (by decide +kernel) (by decide)) ?_
  refine bz_ac (show bz_cok bz_P l RX11 cX11_chalk 2 47 82 mX11_leastTake 3 11 from bz_cV' (own := RX11) (idx := 312) (ci := 10) (N := 42) (T := TX11) (n := 2) bp_X11_leastTake bq_X11_leastTake (by decide +kernel) (bz_tb 1039 (by decide +kernel) (by decide +kernel)) (bz_tb 1041 (by decide +kernel) (by decide +kernel)) (bz_tb 39 (by decide +kernel) (by decide +kernel)) rfl rfl (by decide) (by decide)) ?_
  refine bz_ac (show bz_ok RX11 cX11_chalk 85 (bz_if_lt 92) from bz_o_if_lt (off := 7) (t := 92) (by decide +kernel) (by decide)) ?_
  refine bz_ac (show bz_ok RX11 cX11_chalk 88 (bz_push (.int 1) 1) from bz_o_iconst (n := 1) (v := 1) (by decide +kernel) (by decide)) ?_
  refine bz_ac (show bz_ok RX11 cX11_chalk 89 (bz_goto 93) from bz_o_goto (off := 4) (t := 93) (by decide +kernel) (by decide)) ?_
  refine bz_ac (show bz_ok RX11 cX11_chalk 92 (bz_push (.int 0) 1) from bz_o_iconst (n := 0) (v := 0) (by decide +kernel) (by decide)) ?_
  refine bz_ac (show bz_ok RX11 cX11_chalk 93 (bz_zast) from bz_o_zast (by decide +kernel)) ?_
  refine bz_ac (show bz_ok RX11 cX11_chalk 94 (bz_iinc 4 1) from bz_o_iinc (i := 4) (n := 1) (v := 1) (by decide +kernel) (by decide)) ?_
  refine bz_ac (show bz_ok RX11 cX11_chalk 97 (bz_goto 38) from bz_o_goto (off := (-59)) (t := 38) (by decide +kernel) (by decide)) ?_
  refine bz_ac (show bz_ok RX11 cX11_chalk 100 (bz_aload 0 1) from bz_o_aload_n (k := 0) (i := 0) (by decide +kernel) rfl) ?_
  refine bz_ac (show bz_ok RX11 cX11_chalk 101 (bz_iload 1 1) from bz_o_iload_n (k := 1) (i := 1) (by decide +kernel) rfl) ?_
  refine bz_ac (show bz_ok RX11 cX11_chalk 102 (bz_iload 2 1) from bz_o_iload_n (k := 2) (i := 2) (by decide +kernel) rfl) ?_
  refine bz_ac (show bz_cok bz_P l RX11 cX11_chalk 2 47 103 mX11_leastTake 3 11 from bz_cV' (own := RX11) (idx := 312) (ci := 10) (N := 42) (T := TX11) (n := 2) bp_X11_leastTake bq_X11_leastTake (by decide +kernel) (bz_tb 1039 (by decide +kernel) (by decide +kernel)) (bz_tb 1041 (by decide +kernel) (by decide +kernel)) (bz_tb 39 (by decide +kernel) (by decide +kernel)) rfl rfl (by decide) (by decide)) ?_
  refine bz_ac (show bz_ok RX11 cX11_chalk 106 (bz_istore 4 2) from bz_o_istore (i := 4) (by decide +kernel)) ?_
  refine bz_ac (show bz_ok RX11 cX11_chalk 108 (bz_iload 3 1) from bz_o_iload_n (k := 3) (i := 3) (by decide +kernel) rfl) ?_
  refine bz_ac (show bz_ok RX11 cX11_chalk 109 (bz_push (.int 1) 1) from bz_o_iconst (n := 1) (v := 1) (by decide +kernel) (by decide)) ?_
  refine bz_ac (show bz_ok RX11 cX11_chalk 110 (bz_ic_ne 118) from bz_o_ic_ne (off := 8) (t := 118) (by decide +kernel) (by decide)) ?_
  refine bz_ac (show bz_ok RX11 cX11_chalk 113 (bz_iload 4 2) from bz_o_iload (i := 4) (by decide +kernel)) ?_
  refine bz_ac (show bz_ok RX11 cX11_chalk 115 (bz_goto 128) from bz_o_goto (off := 13) (t := 128) (by decide +kernel) (by decide)) ?_
  refine bz_ac (show bz_ok RX11 cX11_chalk 118 (bz_iload 4 2) from bz_o_iload (i := 4) (by decide +kernel)) ?_
  refine bz_ac (show bz_ok RX11 cX11_chalk 120 (bz_if_ge 127) from bz_o_if_ge (off := 7) (t := 127) (by decide +kernel) (by decide)) ?_
  refine bz_ac (show bz_ok RX11 cX11_chalk 123 (bz_push (.int 0) 1) from bz_o_iconst (n := 0) (v := 0) (by decide +kernel) (by decide)) ?_
  refine bz_ac (show bz_ok RX11 cX11_chalk 124 (bz_goto 128) from bz_o_goto (off := 4) (t := 128) (by decide +kernel) (by decide)) ?_
  refine bz_ac (show bz_ok RX11 cX11_chalk 127 (bz_push (.int 1) 1) from bz_o_iconst (n := 1) (v := 1) (by decide +kernel) (by decide)) ?_
  refine bz_ac (show bz_rok cX11_chalk (some .int) 128 1 from Or.inr (Or.inl ⟨rfl, rfl, by decide +kernel⟩)) ?_
  exact bz_an
set_option maxRecDepth 100000 in
theorem bo_X11_lowest (l : Launch) : ∀ q ∈ bt_X11_lowest, bz_rw bz_P l bm_X11_lowest q := by
  refine bz_ac (show bz_ok RX11 cX11_lowest 0 (bz_lload 2 1) from bz_o_lload_n (k := 2) (i := 2) (by decide +kernel) rfl) ?_
  refine bz_ac (show bz_ok RX11 cX11_lowest 1 (bz_lstore 5 2) from bz_o_lstore (i := 5) (by decide +kernel)) ?_
  refine bz_ac (show bz_ok RX11 cX11_lowest 3 (bz_lload 0 1) from bz_o_lload_n (k := 0) (i := 0) (by decide +kernel) rfl) ?_
  refine bz_ac (show bz_ok RX11 cX11_lowest 4 (bz_lstore 7 2) from bz_o_lstore (i := 7) (by decide +kernel)) ?_
  refine bz_ac (show bz_ok RX11 cX11_lowest 6 (bz_lload 7 2) from bz_o_lload (i := 7) (by decide +kernel)) ?_
  refine bz_ac (show bz_ok RX11 cX11_lowest 8 (bz_push (.long 0) 1) from bz_o_lconst (n := 0) (v := 0) (by decide +kernel) (by decide)) ?_
  refine bz_ac (show bz_ok RX11 cX11_lowest 9 (bz_lcmp) from bz_o_lcmp (by decide +kernel)) ?_
  refine bz_ac (show bz_ok RX11 cX11_lowest 10 (bz_if_eq 31) from bz_o_if_eq (off := 21) (t := 31) (by decide +kernel) (by decide)) ?_
  refine bz_ac (show bz_ok RX11 cX11_lowest 13 (bz_lload 5 2) from bz_o_lload (i := 5) (by decide +kernel)) ?_
  refine bz_ac (show bz_ok RX11 cX11_lowest 15 (bz_lload 7 2) from bz_o_lload (i := 7) (by decide +kernel)) ?_
  refine bz_ac (show bz_ok RX11 cX11_lowest 17 (bz_lrem) from bz_o_lrem (by decide +kernel)) ?_
  refine bz_ac (show bz_ok RX11 cX11_lowest 18 (bz_lstore 9 2) from bz_o_lstore (i := 9) (by decide +kernel)) ?_
  refine bz_ac (show bz_ok RX11 cX11_lowest 20 (bz_lload 7 2) from bz_o_lload (i := 7) (by decide +kernel)) ?_
  refine bz_ac (show bz_ok RX11 cX11_lowest 22 (bz_lstore 5 2) from bz_o_lstore (i := 5) (by decide +kernel)) ?_
  refine bz_ac (show bz_ok RX11 cX11_lowest 24 (bz_lload 9 2) from bz_o_lload (i := 9) (by decide +kernel)) ?_
  refine bz_ac (show bz_ok RX11 cX11_lowest 26 (bz_lstore 7 2) from bz_o_lstore (i := 7) (by decide +kernel)) ?_
  refine bz_ac (show bz_ok RX11 cX11_lowest 28 (bz_goto 6) from bz_o_goto (off := (-22)) (t := 6) (by decide +kernel) (by decide)) ?_
  refine bz_ac (show bz_ok RX11 cX11_lowest 31 (bz_iload 4 2) from bz_o_iload (i := 4) (by decide +kernel)) ?_
  refine bz_ac (show bz_ok RX11 cX11_lowest 33 (bz_if_ne 43) from bz_o_if_ne (off := 10) (t := 43) (by decide +kernel) (by decide)) ?_
  refine bz_ac (show bz_ok RX11 cX11_lowest 36 (bz_lload 0 1) from bz_o_lload_n (k := 0) (i := 0) (by decide +kernel) rfl) ?_
  refine bz_ac (show bz_ok RX11 cX11_lowest 37 (bz_lload 5 2) from bz_o_lload (i := 5) (by decide +kernel)) ?_
  refine bz_ac (show bz_ok RX11 cX11_lowest 39 (bz_ldiv) from bz_o_ldiv (by decide +kernel)) ?_
  refine bz_ac (show bz_ok RX11 cX11_lowest 40 (bz_goto 47) from bz_o_goto (off := 7) (t := 47) (by decide +kernel) (by decide)) ?_
  refine bz_ac (show bz_ok RX11 cX11_lowest 43 (bz_lload 2 1) from bz_o_lload_n (k := 2) (i := 2) (by decide +kernel) rfl) ?_
  refine bz_ac (show bz_ok RX11 cX11_lowest 44 (bz_lload 5 2) from bz_o_lload (i := 5) (by decide +kernel)) ?_
  refine bz_ac (show bz_ok RX11 cX11_lowest 46 (bz_ldiv) from bz_o_ldiv (by decide +kernel)) ?_
  refine bz_ac (show bz_rok cX11_lowest (some .long) 47 2 from Or.inr (Or.inr (Or.inl ⟨rfl, rfl, by decide +kernel⟩))) ?_
  exact bz_an
set_option maxRecDepth 100000 in
theorem bo_X11_power (l : Launch) : ∀ q ∈ bt_X11_power, bz_rw bz_P l bm_X11_power q := by
  refine bz_ac (show bz_ok RX11 cX11_power 0 (bz_push (.long 1) 1) from bz_o_lconst (n := 1) (v := 1) (by decide +kernel) (by decide)) ?_
  refine bz_ac (show bz_ok RX11 cX11_power 1 (bz_lstore 3 1) from bz_o_lstore_n (k := 3) (i := 3) (by decide +kernel) rfl) ?_
  refine bz_ac (show bz_ok RX11 cX11_power 2 (bz_push (.int 0) 1) from bz_o_iconst (n := 0) (v := 0) (by decide +kernel) (by decide)) ?_
  refine bz_ac (show bz_ok RX11 cX11_power 3 (bz_istore 5 2) from bz_o_istore (i := 5) (by decide +kernel)) ?_
  refine bz_ac (show bz_ok RX11 cX11_power 5 (bz_iload 5 2) from bz_o_iload (i := 5) (by decide +kernel)) ?_
  refine bz_ac (show bz_ok RX11 cX11_power 7 (bz_iload 2 1) from bz_o_iload_n (k := 2) (i := 2) (by decide +kernel) rfl) ?_
  refine bz_ac (show bz_ok RX11 cX11_power 8 (bz_ic_ge 21) from bz_o_ic_ge (off := 13) (t := 21) (by decide +kernel) (by decide)) ?_
  refine bz_ac (show bz_ok RX11 cX11_power 11 (bz_lload 3 1) from bz_o_lload_n (k := 3) (i := 3) (by decide +kernel) rfl) ?_
  refine bz_ac (show bz_ok RX11 cX11_power 12 (bz_lload 0 1) from bz_o_lload_n (k := 0) (i := 0) (by decide +kernel) rfl) ?_
  refine bz_ac (show bz_ok RX11 cX11_power 13 (bz_lmul) from bz_o_lmul (by decide +kernel)) ?_
  refine bz_ac (show bz_ok RX11 cX11_power 14 (bz_lstore 3 1) from bz_o_lstore_n (k := 3) (i := 3) (by decide +kernel) rfl) ?_
  refine bz_ac (show bz_ok RX11 cX11_power 15 (bz_iinc 5 1) from bz_o_iinc (i := 5) (n := 1) (v := 1) (by decide +kernel) (by decide)) ?_
  refine bz_ac (show bz_ok RX11 cX11_power 18 (bz_goto 5) from bz_o_goto (off := (-13)) (t := 5) (by decide +kernel) (by decide)) ?_
  refine bz_ac (show bz_ok RX11 cX11_power 21 (bz_lload 3 1) from bz_o_lload_n (k := 3) (i := 3) (by decide +kernel) rfl) ?_
  refine bz_ac (show bz_rok cX11_power (some .long) 22 2 from Or.inr (Or.inr (Or.inl ⟨rfl, rfl, by decide +kernel⟩))) ?_
  exact bz_an
set_option maxRecDepth 100000 in
theorem bo_X11_findChance (l : Launch) : ∀ q ∈ bt_X11_findChance, bz_rw bz_P l bm_X11_findChance q := by
  refine bz_ac (show bz_ok RX11 cX11_findChance 0 (bz_push (.int 0) 1) from bz_o_iconst (n := 0) (v := 0) (by decide +kernel) (by decide)) ?_
  refine bz_ac (show bz_ok RX11 cX11_findChance 1 (bz_istore 5 2) from bz_o_istore (i := 5) (by decide +kernel)) ?_
  refine bz_ac (show bz_ok RX11 cX11_findChance 3 (bz_iload 5 2) from bz_o_iload (i := 5) (by decide +kernel)) ?_
  refine bz_ac (show bz_ok RX11 cX11_findChance 5 (bz_push (.int 81) 2) from bz_o_bipush (n := 81) (v := 81) (by decide +kernel) (by decide)) ?_
  refine bz_ac (show bz_ok RX11 cX11_findChance 7 (bz_ic_ge 40) from bz_o_ic_ge (off := 33) (t := 40) (by decide +kernel) (by decide)) ?_
  refine bz_ac (show bz_ok RX11 cX11_findChance 10 (bz_aload 0 1) from bz_o_aload_n (k := 0) (i := 0) (by decide +kernel) rfl) ?_
  refine bz_ac (show bz_ok RX11 cX11_findChance 11 (bz_getR 10 37) from bz_o_getR (ci := 10) (k := 37) (idx := 59) (C := RX11) (T := TX11) (N := 42) rfl bh_10 rfl rfl (bz_tb 709 (by decide +kernel) (by decide +kernel)) rfl (by decide +kernel)) ?_
  refine bz_ac (show bz_ok RX11 cX11_findChance 14 (bz_iload 5 2) from bz_o_iload (i := 5) (by decide +kernel)) ?_
  refine bz_ac (show bz_ok RX11 cX11_findChance 16 (bz_iload 5 2) from bz_o_iload (i := 5) (by decide +kernel)) ?_
  refine bz_ac (show bz_ok RX11 cX11_findChance 18 (bz_push (.int 9) 2) from bz_o_bipush (n := 9) (v := 9) (by decide +kernel) (by decide)) ?_
  refine bz_ac (show bz_ok RX11 cX11_findChance 20 (bz_iload 3 1) from bz_o_iload_n (k := 3) (i := 3) (by decide +kernel) rfl) ?_
  refine bz_ac (show bz_ok RX11 cX11_findChance 21 (bz_imul) from bz_o_imul (by decide +kernel)) ?_
  refine bz_ac (show bz_ok RX11 cX11_findChance 22 (bz_iload 4 2) from bz_o_iload (i := 4) (by decide +kernel)) ?_
  refine bz_ac (show bz_ok RX11 cX11_findChance 24 (bz_iadd) from bz_o_iadd (by decide +kernel)) ?_
  refine bz_ac (show bz_ok RX11 cX11_findChance 25 (bz_ic_ne 32) from bz_o_ic_ne (off := 7) (t := 32) (by decide +kernel) (by decide)) ?_
  refine bz_ac (show bz_ok RX11 cX11_findChance 28 (bz_push (.long 1) 1) from bz_o_lconst (n := 1) (v := 1) (by decide +kernel) (by decide)) ?_
  refine bz_ac (show bz_ok RX11 cX11_findChance 29 (bz_goto 33) from bz_o_goto (off := 4) (t := 33) (by decide +kernel) (by decide)) ?_
  refine bz_ac (show bz_ok RX11 cX11_findChance 32 (bz_push (.long 0) 1) from bz_o_lconst (n := 0) (v := 0) (by decide +kernel) (by decide)) ?_
  refine bz_ac (show bz_ok RX11 cX11_findChance 33 (bz_last) from bz_o_last (by decide +kernel)) ?_
  refine bz_ac (show bz_ok RX11 cX11_findChance 34 (bz_iinc 5 1) from bz_o_iinc (i := 5) (n := 1) (v := 1) (by decide +kernel) (by decide)) ?_
  refine bz_ac (show bz_ok RX11 cX11_findChance 37 (bz_goto 3) from bz_o_goto (off := (-34)) (t := 3) (by decide +kernel) (by decide)) ?_
  refine bz_ac (show bz_ok RX11 cX11_findChance 40 (bz_iload 3 1) from bz_o_iload_n (k := 3) (i := 3) (by decide +kernel) rfl) ?_
  refine bz_ac (show bz_ok RX11 cX11_findChance 41 (bz_istore 5 2) from bz_o_istore (i := 5) (by decide +kernel)) ?_
  refine bz_ac (show bz_ok RX11 cX11_findChance 43 (bz_iload 5 2) from bz_o_iload (i := 5) (by decide +kernel)) ?_
  refine bz_ac (show bz_ok RX11 cX11_findChance 45 (bz_iload 1 1) from bz_o_iload_n (k := 1) (i := 1) (by decide +kernel) rfl) ?_
  refine bz_ac (show bz_ok RX11 cX11_findChance 46 (bz_ic_ge 143) from bz_o_ic_ge (off := 97) (t := 143) (by decide +kernel) (by decide)) ?_
  refine bz_ac (show bz_ok RX11 cX11_findChance 49 (bz_iload 4 2) from bz_o_iload (i := 4) (by decide +kernel)) ?_
  refine bz_ac (show bz_ok RX11 cX11_findChance 51 (bz_istore 6 2) from bz_o_istore (i := 6) (by decide +kernel)) ?_
  refine bz_ac (show bz_ok RX11 cX11_findChance 53 (bz_iload 6 2) from bz_o_iload (i := 6) (by decide +kernel)) ?_
  refine bz_ac (show bz_ok RX11 cX11_findChance 55 (bz_iload 1 1) from bz_o_iload_n (k := 1) (i := 1) (by decide +kernel) rfl) ?_
  refine bz_ac (show bz_ok RX11 cX11_findChance 56 (bz_ic_ge 137) from bz_o_ic_ge (off := 81) (t := 137) (by decide +kernel) (by decide)) ?_
  refine bz_ac (show bz_ok RX11 cX11_findChance 59 (bz_aload 0 1) from bz_o_aload_n (k := 0) (i := 0) (by decide +kernel) rfl) ?_
  refine bz_ac (show bz_ok RX11 cX11_findChance 60 (bz_getR 10 37) from bz_o_getR (ci := 10) (k := 37) (idx := 59) (C := RX11) (T := TX11) (N := 42) rfl bh_10 rfl rfl (bz_tb 709 (by decide +kernel) (by decide +kernel)) rfl (by decide +kernel)) ?_
  refine bz_ac (show bz_ok RX11 cX11_findChance 63 (bz_push (.int 9) 2) from bz_o_bipush (n := 9) (v := 9) (by decide +kernel) (by decide)) ?_
  refine bz_ac (show bz_ok RX11 cX11_findChance 65 (bz_iload 5 2) from bz_o_iload (i := 5) (by decide +kernel)) ?_
  refine bz_ac (show bz_ok RX11 cX11_findChance 67 (bz_push (.int 1) 1) from bz_o_iconst (n := 1) (v := 1) (by decide +kernel) (by decide)) ?_
  refine bz_ac (show bz_ok RX11 cX11_findChance 68 (bz_iadd) from bz_o_iadd (by decide +kernel)) ?_
  refine bz_ac (show bz_ok RX11 cX11_findChance 69 (bz_imul) from bz_o_imul (by decide +kernel)) ?_
  refine bz_ac (show bz_ok RX11 cX11_findChance 70 (bz_iload 6 2) from bz_o_iload (i := 6) (by decide +kernel)) ?_
  refine bz_ac (show bz_ok RX11 cX11_findChance 72 (bz_iadd) from bz_o_iadd (by decide +kernel)) ?_
  refine bz_ac (show bz_ok RX11 cX11_findChance 73 (bz_dup2) from bz_o_dup2 (by decide +kernel)) ?_
  refine bz_ac (show bz_ok RX11 cX11_findChance 74 (bz_lald) from bz_o_lald (by decide +kernel)) ?_
  refine bz_ac (show bz_ok RX11 cX11_findChance 75 (bz_iload 2 1) from bz_o_iload_n (k := 2) (i := 2) (by decide +kernel) rfl) ?_
  refine bz_ac (show bz_ok RX11 cX11_findChance 76 (bz_i2l) from bz_o_i2l (by decide +kernel)) ?_
  refine bz_ac (show bz_ok RX11 cX11_findChance 77 (bz_aload 0 1) from bz_o_aload_n (k := 0) (i := 0) (by decide +kernel) rfl) ?_
  refine bz_ac (show bz_ok RX11 cX11_findChance 78 (bz_getR 10 37) from bz_o_getR (ci := 10) (k := 37) (idx := 59) (C := RX11) (T := TX11) (N := 42) rfl bh_10 rfl rfl (bz_tb 709 (by decide +kernel) (by decide +kernel)) rfl (by decide +kernel)) ?_
  refine bz_ac (show bz_ok RX11 cX11_findChance 81 (bz_push (.int 9) 2) from bz_o_bipush (n := 9) (v := 9) (by decide +kernel) (by decide)) ?_
  refine bz_ac (show bz_ok RX11 cX11_findChance 83 (bz_iload 5 2) from bz_o_iload (i := 5) (by decide +kernel)) ?_
  refine bz_ac (show bz_ok RX11 cX11_findChance 85 (bz_imul) from bz_o_imul (by decide +kernel)) ?_
  refine bz_ac (show bz_ok RX11 cX11_findChance 86 (bz_iload 6 2) from bz_o_iload (i := 6) (by decide +kernel)) ?_
  refine bz_ac (show bz_ok RX11 cX11_findChance 88 (bz_iadd) from bz_o_iadd (by decide +kernel)) ?_
  refine bz_ac (show bz_ok RX11 cX11_findChance 89 (bz_lald) from bz_o_lald (by decide +kernel)) ?_
  refine bz_ac (show bz_ok RX11 cX11_findChance 90 (bz_lmul) from bz_o_lmul (by decide +kernel)) ?_
  refine bz_ac (show bz_ok RX11 cX11_findChance 91 (bz_ladd) from bz_o_ladd (by decide +kernel)) ?_
  refine bz_ac (show bz_ok RX11 cX11_findChance 92 (bz_last) from bz_o_last (by decide +kernel)) ?_
  refine bz_ac (show bz_ok RX11 cX11_findChance 93 (bz_aload 0 1) from bz_o_aload_n (k := 0) (i := 0) (by decide +kernel) rfl) ?_
  refine bz_ac (show bz_ok RX11 cX11_findChance 94 (bz_getR 10 37) from bz_o_getR (ci := 10) (k := 37) (idx := 59) (C := RX11) (T := TX11) (N := 42) rfl bh_10 rfl rfl (bz_tb 709 (by decide +kernel) (by decide +kernel)) rfl (by decide +kernel)) ?_
  refine bz_ac (show bz_ok RX11 cX11_findChance 97 (bz_push (.int 9) 2) from bz_o_bipush (n := 9) (v := 9) (by decide +kernel) (by decide)) ?_
  refine bz_ac (show bz_ok RX11 cX11_findChance 99 (bz_iload 5 2) from bz_o_iload (i := 5) (by decide +kernel)) ?_
  refine bz_ac (show bz_ok RX11 cX11_findChance 101 (bz_imul) from bz_o_imul (by decide +kernel)) ?_
  refine bz_ac (show bz_ok RX11 cX11_findChance 102 (bz_iload 6 2) from bz_o_iload (i := 6) (by decide +kernel)) ?_
  refine bz_ac (show bz_ok RX11 cX11_findChance 104 (bz_iadd) from bz_o_iadd (by decide +kernel)) ?_
  refine bz_ac (show bz_ok RX11 cX11_findChance 105 (bz_push (.int 1) 1) from bz_o_iconst (n := 1) (v := 1) (by decide +kernel) (by decide)) ?_
  refine bz_ac (show bz_ok RX11 cX11_findChance 106 (bz_iadd) from bz_o_iadd (by decide +kernel)) ?_
  refine bz_ac (show bz_ok RX11 cX11_findChance 107 (bz_dup2) from bz_o_dup2 (by decide +kernel)) ?_
  refine bz_ac (show bz_ok RX11 cX11_findChance 108 (bz_lald) from bz_o_lald (by decide +kernel)) ?_
  refine bz_ac (show bz_ok RX11 cX11_findChance 109 (bz_push (.long 10) 3) from bz_o_ldc2 (own := RX11) (i := 315) (v := 10) (by decide +kernel) (bz_tb 1053 (by decide +kernel) (by decide +kernel))) ?_
  refine bz_ac (show bz_ok RX11 cX11_findChance 112 (bz_iload 2 1) from bz_o_iload_n (k := 2) (i := 2) (by decide +kernel) rfl) ?_
  refine bz_ac (show bz_ok RX11 cX11_findChance 113 (bz_i2l) from bz_o_i2l (by decide +kernel)) ?_
  refine bz_ac (show bz_ok RX11 cX11_findChance 114 (bz_lsub) from bz_o_lsub (by decide +kernel)) ?_
  refine bz_ac (show bz_ok RX11 cX11_findChance 115 (bz_aload 0 1) from bz_o_aload_n (k := 0) (i := 0) (by decide +kernel) rfl) ?_
  refine bz_ac (show bz_ok RX11 cX11_findChance 116 (bz_getR 10 37) from bz_o_getR (ci := 10) (k := 37) (idx := 59) (C := RX11) (T := TX11) (N := 42) rfl bh_10 rfl rfl (bz_tb 709 (by decide +kernel) (by decide +kernel)) rfl (by decide +kernel)) ?_
  refine bz_ac (show bz_ok RX11 cX11_findChance 119 (bz_push (.int 9) 2) from bz_o_bipush (n := 9) (v := 9) (by decide +kernel) (by decide)) ?_
  refine bz_ac (show bz_ok RX11 cX11_findChance 121 (bz_iload 5 2) from bz_o_iload (i := 5) (by decide +kernel)) ?_
  refine bz_ac (show bz_ok RX11 cX11_findChance 123 (bz_imul) from bz_o_imul (by decide +kernel)) ?_
  refine bz_ac (show bz_ok RX11 cX11_findChance 124 (bz_iload 6 2) from bz_o_iload (i := 6) (by decide +kernel)) ?_
  refine bz_ac (show bz_ok RX11 cX11_findChance 126 (bz_iadd) from bz_o_iadd (by decide +kernel)) ?_
  refine bz_ac (show bz_ok RX11 cX11_findChance 127 (bz_lald) from bz_o_lald (by decide +kernel)) ?_
  refine bz_ac (show bz_ok RX11 cX11_findChance 128 (bz_lmul) from bz_o_lmul (by decide +kernel)) ?_
  refine bz_ac (show bz_ok RX11 cX11_findChance 129 (bz_ladd) from bz_o_ladd (by decide +kernel)) ?_
  refine bz_ac (show bz_ok RX11 cX11_findChance 130 (bz_last) from bz_o_last (by decide +kernel)) ?_
  refine bz_ac (show bz_ok RX11 cX11_findChance 131 (bz_iinc 6 1) from bz_o_iinc (i := 6) (n := 1) (v := 1) (by decide +kernel) (by decide)) ?_
  refine bz_ac (show bz_ok RX11 cX11_findChance 134 (bz_goto 53) from bz_o_goto (off := (-81)) (t := 53) (by decide +kernel) (by decide)) ?_
  refine bz_ac (show bz_ok RX11 cX11_findChance 137 (bz_iinc 5 1) from bz_o_iinc (i := 5) (n := 1) (v := 1) (by decide +kernel) (by decide)) ?_
  refine bz_ac (show bz_ok RX11 cX11_findChance 140 (bz_goto 43) from bz_o_goto (off := (-97)) (t := 43) (by decide +kernel) (by decide)) ?_
  refine bz_ac (show bz_rok cX11_findChance none 143 0 from Or.inl ⟨rfl, rfl, by decide +kernel⟩) ?_
  exact bz_an
