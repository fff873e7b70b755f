/-! ===== the law: its other cases ===== -/
section LCS
variable {Γ : GT} {rt : Option FieldType} {k : Nat}
theorem lc_draw (g : GM Γ x cL_law 4 rt k) {L i : Nat} {xs : Nat → Int32} (gx : GX Γ L xs) (hk : 20 ≤ k) (hi : i + 6 ≤ L) {q : SP} (hI : SI q) (kk : ∀ q1, SI q1 → LB Γ 1399 [some (.float 4), some (.ref 0), some (.ref 52), some (.int (nI i))] [] (q1, q1)) : LB Γ 762 [some (.float 4), some (.ref 0), some (.ref 52), some (.int (nI i))] [] (q, q) := by
  refine lb_aload_n1 g dL_law_762 ?_
  refine lb_arg g gx 1 (by omega) dL_law_763 dL_law_764 dL_law_765 rfl dL_law_766 dL_law_767 ?_
  refine lb_arg g gx 2 (by omega) dL_law_768 dL_law_769 dL_law_770 rfl dL_law_771 dL_law_772 ?_
  refine lb_Dl g qL_93 dL_law_773 (0 + 6) (Nat.le_trans (by decide) hk) [.int (xs (i + 1)), .int (xs (i + 2))] rfl (Nat.le_of_ble_eq_true rfl) (fun _ _ => rfl) (fun h0 hh => x_draw 0 q _ _ h0 hh hI) ?_
  refine lb_aload_n2 g dL_law_776 ?_
  refine lb_arg g gx 1 (by omega) dL_law_777 dL_law_778 dL_law_779 rfl dL_law_780 dL_law_781 ?_
  refine lb_arg g gx 2 (by omega) dL_law_782 dL_law_783 dL_law_784 rfl dL_law_785 dL_law_786 ?_
  refine lb_Ml g qL_97 dL_law_787 (0 + 6) (Nat.le_trans (by decide) hk) [.int (xs (i + 1)), .int (xs (i + 2))] rfl (Nat.le_of_ble_eq_true rfl) (fun _ _ => rfl) (fun h0 hh => m_draw 0 q _ _ h0 hh hI) ?_
  refine lb_lc_eq g 1399 dL_law_790 dL_law_791 (by decide) (fun _ => ?_) (fun ne => absurd rfl ne)
  exact kk _ (si_draw _ _ hI)
theorem lc_seed (g : GM Γ x cL_law 4 rt k) {L i : Nat} {xs : Nat → Int32} (gx : GX Γ L xs) (hk : 20 ≤ k) (hi : i + 6 ≤ L) {q : SP} (hI : SI q) (kk : ∀ q1, SI q1 → LB Γ 1399 [some (.float 4), some (.ref 0), some (.ref 52), some (.int (nI i))] [] (q1, q1)) : LB Γ 796 [some (.float 4), some (.ref 0), some (.ref 52), some (.int (nI i))] [] (q, q) := by
  refine lb_aload_n1 g dL_law_796 ?_
  refine lb_arg g gx 1 (by omega) dL_law_797 dL_law_798 dL_law_799 rfl dL_law_800 dL_law_801 ?_
  refine lb_Di g qL_98 dL_law_802 (0 + 6) (Nat.le_trans (by decide) hk) [.int (xs (i + 1))] rfl (Nat.le_of_ble_eq_true rfl) (fun _ _ => rfl) (fun h0 hh => x_seed 0 q _ h0 hh hI) ?_
  refine lb_aload_n2 g dL_law_805 ?_
  refine lb_arg g gx 1 (by omega) dL_law_806 dL_law_807 dL_law_808 rfl dL_law_809 dL_law_810 ?_
  refine lb_Mi g qL_101 dL_law_811 (0 + 6) (Nat.le_trans (by decide) hk) [.int (xs (i + 1))] rfl (Nat.le_of_ble_eq_true rfl) (fun _ _ => rfl) (fun h0 hh => m_seed 0 q _ h0 hh hI) ?_
  refine lb_icmp_eq g 1399 dL_law_814 (by decide) (fun _ => ?_) (fun ne => absurd rfl ne)
  exact kk _ (si_seed _ hI)
theorem lc_chance (g : GM Γ x cL_law 4 rt k) {L i : Nat} {xs : Nat → Int32} (gx : GX Γ L xs) (hk : 20 ≤ k) (hi : i + 6 ≤ L) {q : SP} (hI : SI q) (kk : ∀ q1, SI q1 → LB Γ 1399 [some (.float 4), some (.ref 0), some (.ref 52), some (.int (nI i))] [] (q1, q1)) : LB Γ 819 [some (.float 4), some (.ref 0), some (.ref 52), some (.int (nI i))] [] (q, q) := by
  refine lb_aload_n1 g dL_law_819 ?_
  refine lb_arg g gx 1 (by omega) dL_law_820 dL_law_821 dL_law_822 rfl dL_law_823 dL_law_824 ?_
  refine lb_arg g gx 2 (by omega) dL_law_825 dL_law_826 dL_law_827 rfl dL_law_828 dL_law_829 ?_
  refine lb_arg g gx 3 (by omega) dL_law_830 dL_law_831 dL_law_832 rfl dL_law_833 dL_law_834 ?_
  refine lb_arg g gx 4 (by omega) dL_law_835 dL_law_836 dL_law_837 rfl dL_law_838 dL_law_839 ?_
  refine lb_Dl g qL_102 dL_law_840 (0 + 6) (Nat.le_trans (by decide) hk) [.int (xs (i + 1)), .int (xs (i + 2)), .int (xs (i + 3)), .int (xs (i + 4))] rfl (Nat.le_of_ble_eq_true rfl) (fun _ _ => rfl) (fun h0 hh => x_chance 0 q _ _ _ _ h0 hh hI) ?_
  refine lb_aload_n2 g dL_law_843 ?_
  refine lb_arg g gx 1 (by omega) dL_law_844 dL_law_845 dL_law_846 rfl dL_law_847 dL_law_848 ?_
  refine lb_arg g gx 2 (by omega) dL_law_849 dL_law_850 dL_law_851 rfl dL_law_852 dL_law_853 ?_
  refine lb_arg g gx 3 (by omega) dL_law_854 dL_law_855 dL_law_856 rfl dL_law_857 dL_law_858 ?_
  refine lb_arg g gx 4 (by omega) dL_law_859 dL_law_860 dL_law_861 rfl dL_law_862 dL_law_863 ?_
  refine lb_Ml g qL_106 dL_law_864 (0 + 6) (Nat.le_trans (by decide) hk) [.int (xs (i + 1)), .int (xs (i + 2)), .int (xs (i + 3)), .int (xs (i + 4))] rfl (Nat.le_of_ble_eq_true rfl) (fun _ _ => rfl) (fun h0 hh => m_chance 0 q _ _ _ _ h0 hh hI) ?_
  refine lb_lc_eq g 1399 dL_law_867 dL_law_868 (by decide) (fun _ => ?_) (fun ne => absurd rfl ne)
  exact kk _ hI
theorem lc_place (g : GM Γ x cL_law 4 rt k) {L i : Nat} {xs : Nat → Int32} (gx : GX Γ L xs) (hk : 20 ≤ k) (hi : i + 6 ≤ L) {q : SP} (hI : SI q) (kk : ∀ q1, SI q1 → LB Γ 1399 [some (.float 4), some (.ref 0), some (.ref 52), some (.int (nI i))] [] (q1, q1)) : LB Γ 873 [some (.float 4), some (.ref 0), some (.ref 52), some (.int (nI i))] [] (q, q) := by
  refine lb_aload_n1 g dL_law_873 ?_
  refine lb_arg g gx 1 (by omega) dL_law_874 dL_law_875 dL_law_876 rfl dL_law_877 dL_law_878 ?_
  refine lb_arg g gx 2 (by omega) dL_law_879 dL_law_880 dL_law_881 rfl dL_law_882 dL_law_883 ?_
  refine lb_arg g gx 3 (by omega) dL_law_884 dL_law_885 dL_law_886 rfl dL_law_887 dL_law_888 ?_
  refine lb_arg g gx 4 (by omega) dL_law_889 dL_law_890 dL_law_891 rfl dL_law_892 dL_law_893 ?_
  refine lb_Dl g qL_107 dL_law_894 (0 + 6) (Nat.le_trans (by decide) hk) [.int (xs (i + 1)), .int (xs (i + 2)), .int (xs (i + 3)), .int (xs (i + 4))] rfl (Nat.le_of_ble_eq_true rfl) (fun _ _ => rfl) (fun h0 hh => x_place 0 q _ _ _ _ h0 hh hI) ?_
  refine lb_aload_n2 g dL_law_897 ?_
  refine lb_arg g gx 1 (by omega) dL_law_898 dL_law_899 dL_law_900 rfl dL_law_901 dL_law_902 ?_
  refine lb_arg g gx 2 (by omega) dL_law_903 dL_law_904 dL_law_905 rfl dL_law_906 dL_law_907 ?_
  refine lb_arg g gx 3 (by omega) dL_law_908 dL_law_909 dL_law_910 rfl dL_law_911 dL_law_912 ?_
  refine lb_arg g gx 4 (by omega) dL_law_913 dL_law_914 dL_law_915 rfl dL_law_916 dL_law_917 ?_
  refine lb_Ml g qL_110 dL_law_918 (0 + 6) (Nat.le_trans (by decide) hk) [.int (xs (i + 1)), .int (xs (i + 2)), .int (xs (i + 3)), .int (xs (i + 4))] rfl (Nat.le_of_ble_eq_true rfl) (fun _ _ => rfl) (fun h0 hh => m_place 0 q _ _ _ _ h0 hh hI) ?_
  refine lb_lc_eq g 1399 dL_law_921 dL_law_922 (by decide) (fun _ => ?_) (fun ne => absurd rfl ne)
  exact kk _ hI
theorem lc_far (g : GM Γ x cL_law 4 rt k) {L i : Nat} {xs : Nat → Int32} (gx : GX Γ L xs) (hk : 20 ≤ k) (hi : i + 6 ≤ L) {q : SP} (hI : SI q) (kk : ∀ q1, SI q1 → LB Γ 1399 [some (.float 4), some (.ref 0), some (.ref 52), some (.int (nI i))] [] (q1, q1)) : LB Γ 927 [some (.float 4), some (.ref 0), some (.ref 52), some (.int (nI i))] [] (q, q) := by
  refine lb_aload_n1 g dL_law_927 ?_
  refine lb_arg g gx 1 (by omega) dL_law_928 dL_law_929 dL_law_930 rfl dL_law_931 dL_law_932 ?_
  refine lb_arg g gx 2 (by omega) dL_law_933 dL_law_934 dL_law_935 rfl dL_law_936 dL_law_937 ?_
  refine lb_arg g gx 3 (by omega) dL_law_938 dL_law_939 dL_law_940 rfl dL_law_941 dL_law_942 ?_
  refine lb_Dl g qL_111 dL_law_943 (0 + 6) (Nat.le_trans (by decide) hk) [.int (xs (i + 1)), .int (xs (i + 2)), .int (xs (i + 3))] rfl (Nat.le_of_ble_eq_true rfl) (fun _ _ => rfl) (fun h0 hh => x_far 0 q _ _ _ h0 hh hI) ?_
  refine lb_aload_n2 g dL_law_946 ?_
  refine lb_arg g gx 1 (by omega) dL_law_947 dL_law_948 dL_law_949 rfl dL_law_950 dL_law_951 ?_
  refine lb_arg g gx 2 (by omega) dL_law_952 dL_law_953 dL_law_954 rfl dL_law_955 dL_law_956 ?_
  refine lb_arg g gx 3 (by omega) dL_law_957 dL_law_958 dL_law_959 rfl dL_law_960 dL_law_961 ?_
  refine lb_Ml g qL_115 dL_law_962 (0 + 12) (Nat.le_trans (by decide) hk) [.int (xs (i + 1)), .int (xs (i + 2)), .int (xs (i + 3))] rfl (Nat.le_of_ble_eq_true rfl) (fun _ _ => rfl) (fun h0 hh => m_far 0 q _ _ _ h0 hh hI) ?_
  refine lb_lc_eq g 1399 dL_law_965 dL_law_966 (by decide) (fun _ => ?_) (fun ne => absurd rfl ne)
  exact kk _ hI
theorem lc_unlike (g : GM Γ x cL_law 4 rt k) {L i : Nat} {xs : Nat → Int32} (gx : GX Γ L xs) (hk : 20 ≤ k) (hi : i + 6 ≤ L) {q : SP} (hI : SI q) (kk : ∀ q1, SI q1 → LB Γ 1399 [some (.float 4), some (.ref 0), some (.ref 52), some (.int (nI i))] [] (q1, q1)) : LB Γ 971 [some (.float 4), some (.ref 0), some (.ref 52), some (.int (nI i))] [] (q, q) := by
  refine lb_aload_n1 g dL_law_971 ?_
  refine lb_arg g gx 1 (by omega) dL_law_972 dL_law_973 dL_law_974 rfl dL_law_975 dL_law_976 ?_
  refine lb_arg g gx 2 (by omega) dL_law_977 dL_law_978 dL_law_979 rfl dL_law_980 dL_law_981 ?_
  refine lb_arg g gx 3 (by omega) dL_law_982 dL_law_983 dL_law_984 rfl dL_law_985 dL_law_986 ?_
  refine lb_Dl g qL_116 dL_law_987 (0 + 6) (Nat.le_trans (by decide) hk) [.int (xs (i + 1)), .int (xs (i + 2)), .int (xs (i + 3))] rfl (Nat.le_of_ble_eq_true rfl) (fun _ _ => rfl) (fun h0 hh => x_unlike 0 q _ _ _ h0 hh hI) ?_
  refine lb_aload_n2 g dL_law_990 ?_
  refine lb_arg g gx 1 (by omega) dL_law_991 dL_law_992 dL_law_993 rfl dL_law_994 dL_law_995 ?_
  refine lb_arg g gx 2 (by omega) dL_law_996 dL_law_997 dL_law_998 rfl dL_law_999 dL_law_1000 ?_
  refine lb_arg g gx 3 (by omega) dL_law_1001 dL_law_1002 dL_law_1003 rfl dL_law_1004 dL_law_1005 ?_
  refine lb_Ml g qL_119 dL_law_1006 (0 + 6) (Nat.le_trans (by decide) hk) [.int (xs (i + 1)), .int (xs (i + 2)), .int (xs (i + 3))] rfl (Nat.le_of_ble_eq_true rfl) (fun _ _ => rfl) (fun h0 hh => m_unlike 0 q _ _ _ h0 hh hI) ?_
  refine lb_lc_eq g 1399 dL_law_1009 dL_law_1010 (by decide) (fun _ => ?_) (fun ne => absurd rfl ne)
  exact kk _ hI
theorem lc_runs (g : GM Γ x cL_law 4 rt k) {L i : Nat} {xs : Nat → Int32} (gx : GX Γ L xs) (hk : 20 ≤ k) (hi : i + 6 ≤ L) {q : SP} (hI : SI q) (kk : ∀ q1, SI q1 → LB Γ 1399 [some (.float 4), some (.ref 0), some (.ref 52), some (.int (nI i))] [] (q1, q1)) : LB Γ 1015 [some (.float 4), some (.ref 0), some (.ref 52), some (.int (nI i))] [] (q, q) := by
  refine lb_aload_n1 g dL_law_1015 ?_
  refine lb_arg g gx 1 (by omega) dL_law_1016 dL_law_1017 dL_law_1018 rfl dL_law_1019 dL_law_1020 ?_
  refine lb_Dl g qL_120 dL_law_1021 (0 + 6) (Nat.le_trans (by decide) hk) [.int (xs (i + 1))] rfl (Nat.le_of_ble_eq_true rfl) (fun _ _ => rfl) (fun h0 hh => x_runs 0 q _ h0 hh hI) ?_
  refine lb_aload_n2 g dL_law_1024 ?_
  refine lb_arg g gx 1 (by omega) dL_law_1025 dL_law_1026 dL_law_1027 rfl dL_law_1028 dL_law_1029 ?_
  refine lb_Ml g qL_124 dL_law_1030 (0 + 6) (Nat.le_trans (by decide) hk) [.int (xs (i + 1))] rfl (Nat.le_of_ble_eq_true rfl) (fun _ _ => rfl) (fun h0 hh => m_runs 0 q _ h0 hh hI) ?_
  refine lb_lc_eq g 1399 dL_law_1033 dL_law_1034 (by decide) (fun _ => ?_) (fun ne => absurd rfl ne)
  exact kk _ hI
theorem lc_leads (g : GM Γ x cL_law 4 rt k) {L i : Nat} {xs : Nat → Int32} (gx : GX Γ L xs) (hk : 20 ≤ k) (hi : i + 6 ≤ L) {q : SP} (hI : SI q) (kk : ∀ q1, SI q1 → LB Γ 1399 [some (.float 4), some (.ref 0), some (.ref 52), some (.int (nI i))] [] (q1, q1)) : LB Γ 1039 [some (.float 4), some (.ref 0), some (.ref 52), some (.int (nI i))] [] (q, q) := by
  refine lb_aload_n1 g dL_law_1039 ?_
  refine lb_arg g gx 1 (by omega) dL_law_1040 dL_law_1041 dL_law_1042 rfl dL_law_1043 dL_law_1044 ?_
  refine lb_arg g gx 2 (by omega) dL_law_1045 dL_law_1046 dL_law_1047 rfl dL_law_1048 dL_law_1049 ?_
  refine lb_Di g qL_125 dL_law_1050 (0 + 6) (Nat.le_trans (by decide) hk) [.int (xs (i + 1)), .int (xs (i + 2))] rfl (Nat.le_of_ble_eq_true rfl) (fun _ _ => rfl) (fun h0 hh => x_leads 0 q _ _ h0 hh hI) ?_
  refine lb_aload_n2 g dL_law_1053 ?_
  refine lb_arg g gx 1 (by omega) dL_law_1054 dL_law_1055 dL_law_1056 rfl dL_law_1057 dL_law_1058 ?_
  refine lb_arg g gx 2 (by omega) dL_law_1059 dL_law_1060 dL_law_1061 rfl dL_law_1062 dL_law_1063 ?_
  refine lb_Mi g qL_128 dL_law_1064 (0 + 6) (Nat.le_trans (by decide) hk) [.int (xs (i + 1)), .int (xs (i + 2))] rfl (Nat.le_of_ble_eq_true rfl) (fun _ _ => rfl) (fun h0 hh => m_leads 0 q _ _ h0 hh hI) ?_
  refine lb_icmp_eq g 1399 dL_law_1067 (by decide) (fun _ => ?_) (fun ne => absurd rfl ne)
  exact kk _ hI
theorem lc_lead (g : GM Γ x cL_law 4 rt k) {L i : Nat} {xs : Nat → Int32} (gx : GX Γ L xs) (hk : 20 ≤ k) (hi : i + 6 ≤ L) {q : SP} (hI : SI q) (kk : ∀ q1, SI q1 → LB Γ 1399 [some (.float 4), some (.ref 0), some (.ref 52), some (.int (nI i))] [] (q1, q1)) : LB Γ 1072 [some (.float 4), some (.ref 0), some (.ref 52), some (.int (nI i))] [] (q, q) := by
  refine lb_aload_n1 g dL_law_1072 ?_
  refine lb_arg g gx 1 (by omega) dL_law_1073 dL_law_1074 dL_law_1075 rfl dL_law_1076 dL_law_1077 ?_
  refine lb_arg g gx 2 (by omega) dL_law_1078 dL_law_1079 dL_law_1080 rfl dL_law_1081 dL_law_1082 ?_
  refine lb_arg g gx 3 (by omega) dL_law_1083 dL_law_1084 dL_law_1085 rfl dL_law_1086 dL_law_1087 ?_
  refine lb_Di g qL_129 dL_law_1088 (0 + 6) (Nat.le_trans (by decide) hk) [.int (xs (i + 1)), .int (xs (i + 2)), .int (xs (i + 3))] rfl (Nat.le_of_ble_eq_true rfl) (fun _ _ => rfl) (fun h0 hh => x_lead 0 q _ _ _ h0 hh hI) ?_
  refine lb_aload_n2 g dL_law_1091 ?_
  refine lb_arg g gx 1 (by omega) dL_law_1092 dL_law_1093 dL_law_1094 rfl dL_law_1095 dL_law_1096 ?_
  refine lb_arg g gx 2 (by omega) dL_law_1097 dL_law_1098 dL_law_1099 rfl dL_law_1100 dL_law_1101 ?_
  refine lb_arg g gx 3 (by omega) dL_law_1102 dL_law_1103 dL_law_1104 rfl dL_law_1105 dL_law_1106 ?_
  refine lb_Mi g qL_132 dL_law_1107 (0 + 6) (Nat.le_trans (by decide) hk) [.int (xs (i + 1)), .int (xs (i + 2)), .int (xs (i + 3))] rfl (Nat.le_of_ble_eq_true rfl) (fun _ _ => rfl) (fun h0 hh => m_lead 0 q _ _ _ h0 hh hI) ?_
  refine lb_icmp_eq g 1399 dL_law_1110 (by decide) (fun _ => ?_) (fun ne => absurd rfl ne)
  exact kk _ hI
theorem lc_group (g : GM Γ x cL_law 4 rt k) {L i : Nat} {xs : Nat → Int32} (gx : GX Γ L xs) (hk : 20 ≤ k) (hi : i + 6 ≤ L) {q : SP} (hI : SI q) (kk : ∀ q1, SI q1 → LB Γ 1399 [some (.float 4), some (.ref 0), some (.ref 52), some (.int (nI i))] [] (q1, q1)) : LB Γ 1115 [some (.float 4), some (.ref 0), some (.ref 52), some (.int (nI i))] [] (q, q) := by
  refine lb_aload_n1 g dL_law_1115 ?_
  refine lb_Di g qL_133 dL_law_1116 (0 + 6) (Nat.le_trans (by decide) hk) [] rfl (Nat.le_of_ble_eq_true rfl) (fun _ _ => rfl) (fun h0 hh => x_group 0 q  h0 hh hI) ?_
  refine lb_aload_n2 g dL_law_1119 ?_
  refine lb_Mi g qL_136 dL_law_1120 (0 + 6) (Nat.le_trans (by decide) hk) [] rfl (Nat.le_of_ble_eq_true rfl) (fun _ _ => rfl) (fun h0 hh => m_group 0 q  h0 hh hI) ?_
  refine lb_icmp_eq g 1399 dL_law_1123 (by decide) (fun _ => ?_) (fun ne => absurd rfl ne)
  exact kk _ hI
theorem lc_act (g : GM Γ x cL_law 4 rt k) {L i : Nat} {xs : Nat → Int32} (gx : GX Γ L xs) (hk : 20 ≤ k) (hi : i + 6 ≤ L) {q : SP} (hI : SI q) (kk : ∀ q1, SI q1 → LB Γ 1399 [some (.float 4), some (.ref 0), some (.ref 52), some (.int (nI i))] [] (q1, q1)) : LB Γ 1128 [some (.float 4), some (.ref 0), some (.ref 52), some (.int (nI i))] [] (q, q) := by
  refine lb_aload_n1 g dL_law_1128 ?_
  refine lb_arg g gx 1 (by omega) dL_law_1129 dL_law_1130 dL_law_1131 rfl dL_law_1132 dL_law_1133 ?_
  refine lb_arg g gx 2 (by omega) dL_law_1134 dL_law_1135 dL_law_1136 rfl dL_law_1137 dL_law_1138 ?_
  refine lb_arg g gx 3 (by omega) dL_law_1139 dL_law_1140 dL_law_1141 rfl dL_law_1142 dL_law_1143 ?_
  refine lb_Di g qL_137 dL_law_1144 (0 + 12) (Nat.le_trans (by decide) hk) [.int (xs (i + 1)), .int (xs (i + 2)), .int (xs (i + 3))] rfl (Nat.le_of_ble_eq_true rfl) (fun _ _ => rfl) (fun h0 hh => x_act 0 q _ _ _ h0 hh hI) ?_
  refine lb_aload_n2 g dL_law_1147 ?_
  refine lb_arg g gx 1 (by omega) dL_law_1148 dL_law_1149 dL_law_1150 rfl dL_law_1151 dL_law_1152 ?_
  refine lb_arg g gx 2 (by omega) dL_law_1153 dL_law_1154 dL_law_1155 rfl dL_law_1156 dL_law_1157 ?_
  refine lb_arg g gx 3 (by omega) dL_law_1158 dL_law_1159 dL_law_1160 rfl dL_law_1161 dL_law_1162 ?_
  refine lb_Mi g qL_140 dL_law_1163 (0 + 12) (Nat.le_trans (by decide) hk) [.int (xs (i + 1)), .int (xs (i + 2)), .int (xs (i + 3))] rfl (Nat.le_of_ble_eq_true rfl) (fun _ _ => rfl) (fun h0 hh => m_act 0 q _ _ _ h0 hh hI) ?_
  refine lb_icmp_eq g 1399 dL_law_1166 (by decide) (fun _ => ?_) (fun ne => absurd rfl ne)
  exact kk _ (si_act _ _ _ hI)
theorem lc_trace (g : GM Γ x cL_law 4 rt k) {L i : Nat} {xs : Nat → Int32} (gx : GX Γ L xs) (hk : 20 ≤ k) (hi : i + 6 ≤ L) {q : SP} (hI : SI q) (kk : ∀ q1, SI q1 → LB Γ 1399 [some (.float 4), some (.ref 0), some (.ref 52), some (.int (nI i))] [] (q1, q1)) : LB Γ 1171 [some (.float 4), some (.ref 0), some (.ref 52), some (.int (nI i))] [] (q, q) := by
  refine lb_aload_n1 g dL_law_1171 ?_
  refine lb_arg g gx 1 (by omega) dL_law_1172 dL_law_1173 dL_law_1174 rfl dL_law_1175 dL_law_1176 ?_
  refine lb_Di g qL_141 dL_law_1177 (0 + 6) (Nat.le_trans (by decide) hk) [.int (xs (i + 1))] rfl (Nat.le_of_ble_eq_true rfl) (fun _ _ => rfl) (fun h0 hh => x_trace 0 q _ h0 hh hI) ?_
  refine lb_aload_n2 g dL_law_1180 ?_
  refine lb_arg g gx 1 (by omega) dL_law_1181 dL_law_1182 dL_law_1183 rfl dL_law_1184 dL_law_1185 ?_
  refine lb_Mi g qL_144 dL_law_1186 (0 + 6) (Nat.le_trans (by decide) hk) [.int (xs (i + 1))] rfl (Nat.le_of_ble_eq_true rfl) (fun _ _ => rfl) (fun h0 hh => m_trace 0 q _ h0 hh hI) ?_
  refine lb_icmp_eq g 1399 dL_law_1189 (by decide) (fun _ => ?_) (fun ne => absurd rfl ne)
  exact kk _ hI
theorem lc_count (g : GM Γ x cL_law 4 rt k) {L i : Nat} {xs : Nat → Int32} (gx : GX Γ L xs) (hk : 20 ≤ k) (hi : i + 6 ≤ L) {q : SP} (hI : SI q) (kk : ∀ q1, SI q1 → LB Γ 1399 [some (.float 4), some (.ref 0), some (.ref 52), some (.int (nI i))] [] (q1, q1)) : LB Γ 1194 [some (.float 4), some (.ref 0), some (.ref 52), some (.int (nI i))] [] (q, q) := by
  refine lb_aload_n1 g dL_law_1194 ?_
  refine lb_arg g gx 1 (by omega) dL_law_1195 dL_law_1196 dL_law_1197 rfl dL_law_1198 dL_law_1199 ?_
  refine lb_Di g qL_145 dL_law_1200 (0 + 6) (Nat.le_trans (by decide) hk) [.int (xs (i + 1))] rfl (Nat.le_of_ble_eq_true rfl) (fun _ _ => rfl) (fun h0 hh => x_count 0 q _ h0 hh hI) ?_
  refine lb_aload_n2 g dL_law_1203 ?_
  refine lb_arg g gx 1 (by omega) dL_law_1204 dL_law_1205 dL_law_1206 rfl dL_law_1207 dL_law_1208 ?_
  refine lb_Mi g qL_148 dL_law_1209 (0 + 6) (Nat.le_trans (by decide) hk) [.int (xs (i + 1))] rfl (Nat.le_of_ble_eq_true rfl) (fun _ _ => rfl) (fun h0 hh => m_count 0 q _ h0 hh hI) ?_
  refine lb_icmp_eq g 1399 dL_law_1212 (by decide) (fun _ => ?_) (fun ne => absurd rfl ne)
  exact kk _ hI
theorem lc_tray (g : GM Γ x cL_law 4 rt k) {L i : Nat} {xs : Nat → Int32} (gx : GX Γ L xs) (hk : 20 ≤ k) (hi : i + 6 ≤ L) {q : SP} (hI : SI q) (kk : ∀ q1, SI q1 → LB Γ 1399 [some (.float 4), some (.ref 0), some (.ref 52), some (.int (nI i))] [] (q1, q1)) : LB Γ 1217 [some (.float 4), some (.ref 0), some (.ref 52), some (.int (nI i))] [] (q, q) := by
  refine lb_aload_n1 g dL_law_1217 ?_
  refine lb_arg g gx 1 (by omega) dL_law_1218 dL_law_1219 dL_law_1220 rfl dL_law_1221 dL_law_1222 ?_
  refine lb_arg g gx 2 (by omega) dL_law_1223 dL_law_1224 dL_law_1225 rfl dL_law_1226 dL_law_1227 ?_
  refine lb_arg g gx 3 (by omega) dL_law_1228 dL_law_1229 dL_law_1230 rfl dL_law_1231 dL_law_1232 ?_
  refine lb_Di g qL_149 dL_law_1233 (0 + 6) (Nat.le_trans (by decide) hk) [.int (xs (i + 1)), .int (xs (i + 2)), .int (xs (i + 3))] rfl (Nat.le_of_ble_eq_true rfl) (fun _ _ => rfl) (fun h0 hh => x_tray 0 q _ _ _ h0 hh hI) ?_
  refine lb_aload_n2 g dL_law_1236 ?_
  refine lb_arg g gx 1 (by omega) dL_law_1237 dL_law_1238 dL_law_1239 rfl dL_law_1240 dL_law_1241 ?_
  refine lb_arg g gx 2 (by omega) dL_law_1242 dL_law_1243 dL_law_1244 rfl dL_law_1245 dL_law_1246 ?_
  refine lb_arg g gx 3 (by omega) dL_law_1247 dL_law_1248 dL_law_1249 rfl dL_law_1250 dL_law_1251 ?_
  refine lb_Mi g qL_152 dL_law_1252 (0 + 6) (Nat.le_trans (by decide) hk) [.int (xs (i + 1)), .int (xs (i + 2)), .int (xs (i + 3))] rfl (Nat.le_of_ble_eq_true rfl) (fun _ _ => rfl) (fun h0 hh => m_tray 0 q _ _ _ h0 hh hI) ?_
  refine lb_icmp_eq g 1399 dL_law_1255 (by decide) (fun _ => ?_) (fun ne => absurd rfl ne)
  exact kk _ (si_tray _ _ _ hI)
theorem lc_cell (g : GM Γ x cL_law 4 rt k) {L i : Nat} {xs : Nat → Int32} (gx : GX Γ L xs) (hk : 20 ≤ k) (hi : i + 6 ≤ L) {q : SP} (hI : SI q) (kk : ∀ q1, SI q1 → LB Γ 1399 [some (.float 4), some (.ref 0), some (.ref 52), some (.int (nI i))] [] (q1, q1)) : LB Γ 1260 [some (.float 4), some (.ref 0), some (.ref 52), some (.int (nI i))] [] (q, q) := by
  refine lb_aload_n1 g dL_law_1260 ?_
  refine lb_arg g gx 1 (by omega) dL_law_1261 dL_law_1262 dL_law_1263 rfl dL_law_1264 dL_law_1265 ?_
  refine lb_arg g gx 2 (by omega) dL_law_1266 dL_law_1267 dL_law_1268 rfl dL_law_1269 dL_law_1270 ?_
  refine lb_arg g gx 3 (by omega) dL_law_1271 dL_law_1272 dL_law_1273 rfl dL_law_1274 dL_law_1275 ?_
  refine lb_Di g qL_153 dL_law_1276 (0 + 6) (Nat.le_trans (by decide) hk) [.int (xs (i + 1)), .int (xs (i + 2)), .int (xs (i + 3))] rfl (Nat.le_of_ble_eq_true rfl) (fun _ _ => rfl) (fun h0 hh => x_cell 0 q _ _ _ h0 hh hI) ?_
  refine lb_aload_n2 g dL_law_1279 ?_
  refine lb_arg g gx 1 (by omega) dL_law_1280 dL_law_1281 dL_law_1282 rfl dL_law_1283 dL_law_1284 ?_
  refine lb_arg g gx 2 (by omega) dL_law_1285 dL_law_1286 dL_law_1287 rfl dL_law_1288 dL_law_1289 ?_
  refine lb_arg g gx 3 (by omega) dL_law_1290 dL_law_1291 dL_law_1292 rfl dL_law_1293 dL_law_1294 ?_
  refine lb_Mi g qL_156 dL_law_1295 (0 + 6) (Nat.le_trans (by decide) hk) [.int (xs (i + 1)), .int (xs (i + 2)), .int (xs (i + 3))] rfl (Nat.le_of_ble_eq_true rfl) (fun _ _ => rfl) (fun h0 hh => m_cell 0 q _ _ _ h0 hh hI) ?_
  refine lb_icmp_eq g 1399 dL_law_1298 (by decide) (fun _ => ?_) (fun ne => absurd rfl ne)
  exact kk _ (si_cell _ _ _ hI)
theorem lc_copy (g : GM Γ x cL_law 4 rt k) {L i : Nat} {xs : Nat → Int32} (gx : GX Γ L xs) (hk : 20 ≤ k) (hi : i + 6 ≤ L) {q : SP} (hI : SI q) (kk : ∀ q1, SI q1 → LB Γ 1399 [some (.float 4), some (.ref 0), some (.ref 52), some (.int (nI i))] [] (q1, q1)) : LB Γ 1303 [some (.float 4), some (.ref 0), some (.ref 52), some (.int (nI i))] [] (q, q) := by
  refine lb_aload_n1 g dL_law_1303 ?_
  refine lb_arg g gx 1 (by omega) dL_law_1304 dL_law_1305 dL_law_1306 rfl dL_law_1307 dL_law_1308 ?_
  refine lb_arg g gx 2 (by omega) dL_law_1309 dL_law_1310 dL_law_1311 rfl dL_law_1312 dL_law_1313 ?_
  refine lb_arg g gx 3 (by omega) dL_law_1314 dL_law_1315 dL_law_1316 rfl dL_law_1317 dL_law_1318 ?_
  refine lb_arg g gx 4 (by omega) dL_law_1319 dL_law_1320 dL_law_1321 rfl dL_law_1322 dL_law_1323 ?_
  refine lb_arg g gx 5 (by omega) dL_law_1324 dL_law_1325 dL_law_1326 rfl dL_law_1327 dL_law_1328 ?_
  refine lb_Di g qL_157 dL_law_1329 (0 + 6) (Nat.le_trans (by decide) hk) [.int (xs (i + 1)), .int (xs (i + 2)), .int (xs (i + 3)), .int (xs (i + 4)), .int (xs (i + 5))] rfl (Nat.le_of_ble_eq_true rfl) (fun _ _ => rfl) (fun h0 hh => x_copy 0 q _ _ _ _ _ h0 hh hI) ?_
  refine lb_aload_n2 g dL_law_1332 ?_
  refine lb_arg g gx 1 (by omega) dL_law_1333 dL_law_1334 dL_law_1335 rfl dL_law_1336 dL_law_1337 ?_
  refine lb_arg g gx 2 (by omega) dL_law_1338 dL_law_1339 dL_law_1340 rfl dL_law_1341 dL_law_1342 ?_
  refine lb_arg g gx 3 (by omega) dL_law_1343 dL_law_1344 dL_law_1345 rfl dL_law_1346 dL_law_1347 ?_
  refine lb_arg g gx 4 (by omega) dL_law_1348 dL_law_1349 dL_law_1350 rfl dL_law_1351 dL_law_1352 ?_
  refine lb_arg g gx 5 (by omega) dL_law_1353 dL_law_1354 dL_law_1355 rfl dL_law_1356 dL_law_1357 ?_
  refine lb_Mi g qL_161 dL_law_1358 (0 + 6) (Nat.le_trans (by decide) hk) [.int (xs (i + 1)), .int (xs (i + 2)), .int (xs (i + 3)), .int (xs (i + 4)), .int (xs (i + 5))] rfl (Nat.le_of_ble_eq_true rfl) (fun _ _ => rfl) (fun h0 hh => m_copy 0 q _ _ _ _ _ h0 hh hI) ?_
  refine lb_icmp_eq g 1399 dL_law_1361 (by decide) (fun _ => ?_) (fun ne => absurd rfl ne)
  exact kk _ (si_copy _ _ _ _ _ hI)
theorem lc_taken (g : GM Γ x cL_law 4 rt k) {L i : Nat} {xs : Nat → Int32} (gx : GX Γ L xs) (hk : 20 ≤ k) (hi : i + 6 ≤ L) {q : SP} (hI : SI q) (kk : ∀ q1, SI q1 → LB Γ 1399 [some (.float 4), some (.ref 0), some (.ref 52), some (.int (nI i))] [] (q1, q1)) : LB Γ 1366 [some (.float 4), some (.ref 0), some (.ref 52), some (.int (nI i))] [] (q, q) := by
  refine lb_aload_n1 g dL_law_1366 ?_
  refine lb_arg g gx 1 (by omega) dL_law_1367 dL_law_1368 dL_law_1369 rfl dL_law_1370 dL_law_1371 ?_
  refine lb_arg g gx 2 (by omega) dL_law_1372 dL_law_1373 dL_law_1374 rfl dL_law_1375 dL_law_1376 ?_
  refine lb_Di g qL_162 dL_law_1377 (0 + 6) (Nat.le_trans (by decide) hk) [.int (xs (i + 1)), .int (xs (i + 2))] rfl (Nat.le_of_ble_eq_true rfl) (fun _ _ => rfl) (fun h0 hh => x_taken 0 q _ _ h0 hh hI) ?_
  refine lb_aload_n2 g dL_law_1380 ?_
  refine lb_arg g gx 1 (by omega) dL_law_1381 dL_law_1382 dL_law_1383 rfl dL_law_1384 dL_law_1385 ?_
  refine lb_arg g gx 2 (by omega) dL_law_1386 dL_law_1387 dL_law_1388 rfl dL_law_1389 dL_law_1390 ?_
  refine lb_Mi g qL_165 dL_law_1391 (0 + 6) (Nat.le_trans (by decide) hk) [.int (xs (i + 1)), .int (xs (i + 2))] rfl (Nat.le_of_ble_eq_true rfl) (fun _ _ => rfl) (fun h0 hh => m_taken 0 q _ _ h0 hh hI) ?_
  refine lb_icmp_eq g 1399 dL_law_1394 (by decide) (fun _ => ?_) (fun ne => absurd rfl ne)
  exact kk _ hI
def lawT : List Nat := [188, 211, 224, 247, 290, 323, 356, 379, 402, 425, 448, 461, 494, 517, 550, 583, 656, 689, 762, 796, 819, 873, 927, 971, 1015, 1039, 1072, 1115, 1128, 1171, 1194, 1217, 1260, 1303, 1366]
theorem lc_all (g : GM Γ x cL_law 4 rt k) {L i : Nat} {xs : Nat → Int32} (gx : GX Γ L xs) (hk : 20 ≤ k) (hi : i + 6 ≤ L) {q : SP} (hI : SI q) (kk : ∀ q1, SI q1 → LB Γ 1399 [some (.float 4), some (.ref 0), some (.ref 52), some (.int (nI i))] [] (q1, q1)) : ∀ j, j < 35 → LB Γ (lawT.getD j 0) [some (.float 4), some (.ref 0), some (.ref 52), some (.int (nI i))] [] (q, q)
  | 0, _ => lc_begin g gx hk hi hI kk
  | 1, _ => lc_pack g gx hk hi hI kk
  | 2, _ => lc_ranked g gx hk hi hI kk
  | 3, _ => lc_told g gx hk hi hI kk
  | 4, _ => lc_card g gx hk hi hI kk
  | 5, _ => lc_packTold g gx hk hi hI kk
  | 6, _ => lc_move g gx hk hi hI kk
  | 7, _ => lc_perfect g gx hk hi hI kk
  | 8, _ => lc_deal g gx hk hi hI kk
  | 9, _ => lc_riffle g gx hk hi hI kk
  | 10, _ => lc_top g gx hk hi hI kk
  | 11, _ => lc_behind g gx hk hi hI kk
  | 12, _ => lc_back g gx hk hi hI kk
  | 13, _ => lc_moves g gx hk hi hI kk
  | 14, _ => lc_shuffleTold g gx hk hi hI kk
  | 15, _ => lc_power g gx hk hi hI kk
  | 16, _ => lc_does g gx hk hi hI kk
  | 17, _ => lc_lots g gx hk hi hI kk
  | 18, _ => lc_draw g gx hk hi hI kk
  | 19, _ => lc_seed g gx hk hi hI kk
  | 20, _ => lc_chance g gx hk hi hI kk
  | 21, _ => lc_place g gx hk hi hI kk
  | 22, _ => lc_far g gx hk hi hI kk
  | 23, _ => lc_unlike g gx hk hi hI kk
  | 24, _ => lc_runs g gx hk hi hI kk
  | 25, _ => lc_leads g gx hk hi hI kk
  | 26, _ => lc_lead g gx hk hi hI kk
  | 27, _ => lc_group g gx hk hi hI kk
  | 28, _ => lc_act g gx hk hi hI kk
  | 29, _ => lc_trace g gx hk hi hI kk
  | 30, _ => lc_count g gx hk hi hI kk
  | 31, _ => lc_tray g gx hk hi hI kk
  | 32, _ => lc_cell g gx hk hi hI kk
  | 33, _ => lc_copy g gx hk hi hI kk
  | 34, _ => lc_taken g gx hk hi hI kk
  | (n + 35), h => absurd h (by omega)
end LCS
