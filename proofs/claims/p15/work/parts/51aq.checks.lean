/-! ENTRIES and their checks: printed by a program (wip/ai). -/
theorem ks911_8 : aseg kS krf kB [kE562, kE565, kE566, kE711, kE712, kE713, kE714, kE715, kE716, kE717, kE718, kE719, kE720, kE721, kE722, kE723, kE724, kE725, kE726, kE727, kE728, kE729, kE730] (ksp [(82, 25, 4, 0, 340, 0)]) kE911 [kC911_0, kC911_1, kC911_2, kC911_3, kC911_4, kC911_5, kC911_6, kC911_7, kC911_8, kC911_9, kC911_10, kC911_11, kC911_12, kC911_13, kC911_14, kC911_15, kC911_16, kC911_17] 30000 (some kC911_8) = true := asgqw (by decide +kernel)
theorem ks911_9 : aseg kS krf kB [kE562, kE565, kE566, kE731, kE732, kE733, kE734, kE735, kE736, kE737, kE738, kE739, kE740, kE741, kE742, kE743, kE744, kE745, kE746, kE747, kE748, kE749, kE750] (ksp [(82, 25, 4, 0, 340, 0)]) kE911 [kC911_0, kC911_1, kC911_2, kC911_3, kC911_4, kC911_5, kC911_6, kC911_7, kC911_8, kC911_9, kC911_10, kC911_11, kC911_12, kC911_13, kC911_14, kC911_15, kC911_16, kC911_17] 30000 (some kC911_9) = true := asgqw (by decide +kernel)
theorem ks911_10 : aseg kS krf kB [kE562, kE565, kE566, kE751, kE752, kE753, kE754, kE755, kE756, kE757, kE758, kE759, kE760, kE761, kE762, kE763, kE764, kE765, kE766, kE767, kE768, kE769, kE770] (ksp [(82, 25, 4, 0, 340, 0)]) kE911 [kC911_0, kC911_1, kC911_2, kC911_3, kC911_4, kC911_5, kC911_6, kC911_7, kC911_8, kC911_9, kC911_10, kC911_11, kC911_12, kC911_13, kC911_14, kC911_15, kC911_16, kC911_17] 30000 (some kC911_10) = true := asgqw (by decide +kernel)
theorem ks911_11 : aseg kS krf kB [kE562, kE565, kE566, kE771, kE772, kE773, kE774, kE775, kE776, kE777, kE778, kE779, kE780, kE781, kE782, kE783, kE784, kE785, kE786, kE787, kE788, kE789, kE790] (ksp [(82, 25, 4, 0, 340, 0)]) kE911 [kC911_0, kC911_1, kC911_2, kC911_3, kC911_4, kC911_5, kC911_6, kC911_7, kC911_8, kC911_9, kC911_10, kC911_11, kC911_12, kC911_13, kC911_14, kC911_15, kC911_16, kC911_17] 30000 (some kC911_11) = true := asgqw (by decide +kernel)
theorem ks911_12 : aseg kS krf kB [kE562, kE565, kE566, kE791, kE792, kE793, kE794, kE795, kE796, kE797, kE798, kE799, kE800, kE801, kE802, kE803, kE804, kE805, kE806, kE807, kE808, kE809, kE810] (ksp [(82, 25, 4, 0, 340, 0)]) kE911 [kC911_0, kC911_1, kC911_2, kC911_3, kC911_4, kC911_5, kC911_6, kC911_7, kC911_8, kC911_9, kC911_10, kC911_11, kC911_12, kC911_13, kC911_14, kC911_15, kC911_16, kC911_17] 30000 (some kC911_12) = true := asgqw (by decide +kernel)
theorem ks911_13 : aseg kS krf kB [kE562, kE565, kE566, kE811, kE812, kE813, kE814, kE815, kE816, kE817, kE818, kE819, kE820, kE821, kE822, kE823, kE824, kE825, kE826, kE827, kE828, kE829, kE830] (ksp [(82, 25, 4, 0, 340, 0)]) kE911 [kC911_0, kC911_1, kC911_2, kC911_3, kC911_4, kC911_5, kC911_6, kC911_7, kC911_8, kC911_9, kC911_10, kC911_11, kC911_12, kC911_13, kC911_14, kC911_15, kC911_16, kC911_17] 30000 (some kC911_13) = true := asgqw (by decide +kernel)
theorem ks911_14 : aseg kS krf kB [kE562, kE565, kE566, kE831, kE832, kE833, kE834, kE835, kE836, kE837, kE838, kE839, kE840, kE841, kE842, kE843, kE844, kE845, kE846, kE847, kE848, kE849, kE850] (ksp [(82, 25, 4, 0, 340, 0)]) kE911 [kC911_0, kC911_1, kC911_2, kC911_3, kC911_4, kC911_5, kC911_6, kC911_7, kC911_8, kC911_9, kC911_10, kC911_11, kC911_12, kC911_13, kC911_14, kC911_15, kC911_16, kC911_17] 30000 (some kC911_14) = true := asgqw (by decide +kernel)
theorem ks911_15 : aseg kS krf kB [kE562, kE565, kE566, kE851, kE852, kE853, kE854, kE855, kE856, kE857, kE858, kE859, kE860, kE861, kE862, kE863, kE864, kE865, kE866, kE867, kE868, kE869, kE870] (ksp [(82, 25, 4, 0, 340, 0)]) kE911 [kC911_0, kC911_1, kC911_2, kC911_3, kC911_4, kC911_5, kC911_6, kC911_7, kC911_8, kC911_9, kC911_10, kC911_11, kC911_12, kC911_13, kC911_14, kC911_15, kC911_16, kC911_17] 30000 (some kC911_15) = true := asgqw (by decide +kernel)
theorem ks911_16 : aseg kS krf kB [kE562, kE565, kE566, kE871, kE872, kE873, kE874, kE875, kE876, kE877, kE878, kE879, kE880, kE881, kE882, kE883, kE884, kE885, kE886, kE887, kE888, kE889, kE890] (ksp [(82, 25, 4, 0, 340, 0)]) kE911 [kC911_0, kC911_1, kC911_2, kC911_3, kC911_4, kC911_5, kC911_6, kC911_7, kC911_8, kC911_9, kC911_10, kC911_11, kC911_12, kC911_13, kC911_14, kC911_15, kC911_16, kC911_17] 30000 (some kC911_16) = true := asgqw (by decide +kernel)
theorem ks911_17 : aseg kS krf kB [kE562, kE565, kE566, kE891, kE892, kE893, kE894, kE895, kE896, kE897, kE898, kE899, kE900, kE901, kE902, kE903, kE904, kE905, kE906, kE907, kE908, kE909, kE910] (ksp [(82, 25, 4, 0, 340, 0)]) kE911 [kC911_0, kC911_1, kC911_2, kC911_3, kC911_4, kC911_5, kC911_6, kC911_7, kC911_8, kC911_9, kC911_10, kC911_11, kC911_12, kC911_13, kC911_14, kC911_15, kC911_16, kC911_17] 30000 (some kC911_17) = true := asgqw (by decide +kernel)
set_option maxRecDepth 100000 in
theorem kok911 : aOK kS krf kB kE911 := aOK_ofs (kal1 kok561 kal0) (kcs1 (kal1 kok562 (kal1 kok565 (kal1 kok566 (kal1 kok570 (kal1 kok571 (kal1 kok572 (kal1 kok573 (kal1 kok574 (kal1 kok575 (kal1 kok576 (kal1 kok577 (kal1 kok578 (kal1 kok579 (kal1 kok580 (kal1 kok581 (kal1 kok582 (kal1 kok583 (kal1 kok584 (kal1 kok585 (kal1 kok586 (kal1 kok587 (kal1 kok588 (kal1 kok589 kal0))))))))))))))))))))))) ks911_0 (kcs1 (kal1 kok562 (kal1 kok565 (kal1 kok566 (kal1 kok590 (kal1 kok591 (kal1 kok592 (kal1 kok593 (kal1 kok594 (kal1 kok595 (kal1 kok596 (kal1 kok597 (kal1 kok598 (kal1 kok599 (kal1 kok600 (kal1 kok601 (kal1 kok602 (kal1 kok603 (kal1 kok604 (kal1 kok605 (kal1 kok606 (kal1 kok607 (kal1 kok608 (kal1 kok609 kal0))))))))))))))))))))))) ks911_1 (kcs1 (kal1 kok562 (kal1 kok565 (kal1 kok566 (kal1 kok610 (kal1 kok611 (kal1 kok612 (kal1 kok613 (kal1 kok614 (kal1 kok615 (kal1 kok616 (kal1 kok617 (kal1 kok618 (kal1 kok619 (kal1 kok620 (kal1 kok621 (kal1 kok622 (kal1 kok623 (kal1 kok624 (kal1 kok625 (kal1 kok626 (kal1 kok627 (kal1 kok628 (kal1 kok629 kal0))))))))))))))))))))))) ks911_2 (kcs1 (kal1 kok562 (kal1 kok565 (kal1 kok566 (kal1 kok630 (kal1 kok631 (kal1 kok632 (kal1 kok633 (kal1 kok634 (kal1 kok635 (kal1 kok636 (kal1 kok637 (kal1 kok638 (kal1 kok639 (kal1 kok640 (kal1 kok641 (kal1 kok642 (kal1 kok643 (kal1 kok644 (kal1 kok645 (kal1 kok646 (kal1 kok647 (kal1 kok648 (kal1 kok649 kal0))))))))))))))))))))))) ks911_3 (kcs1 (kal1 kok562 (kal1 kok565 (kal1 kok566 (kal1 kok650 (kal1 kok651 (kal1 kok652 (kal1 kok653 (kal1 kok654 (kal1 kok655 (kal1 kok656 (kal1 kok657 (kal1 kok658 (kal1 kok659 (kal1 kok660 (kal1 kok661 (kal1 kok662 (kal1 kok663 (kal1 kok664 (kal1 kok665 (kal1 kok666 (kal1 kok667 (kal1 kok668 (kal1 kok669 kal0))))))))))))))))))))))) ks911_4 (kcs1 (kal1 kok562 (kal1 kok565 (kal1 kok566 (kal1 kok670 (kal1 kok671 (kal1 kok672 (kal1 kok673 (kal1 kok674 (kal1 kok675 (kal1 kok676 (kal1 kok677 (kal1 kok678 (kal1 kok679 (kal1 kok680 (kal1 kok681 (kal1 kok682 (kal1 kok683 (kal1 kok684 (kal1 kok685 (kal1 kok686 (kal1 kok687 (kal1 kok688 (kal1 kok689 kal0))))))))))))))))))))))) ks911_5 (kcs1 (kal1 kok562 (kal1 kok565 (kal1 kok566 (kal1 kok690 kal0)))) ks911_6 (kcs1 (kal1 kok562 (kal1 kok565 (kal1 kok566 (kal1 kok691 (kal1 kok692 (kal1 kok693 (kal1 kok694 (kal1 kok695 (kal1 kok696 (kal1 kok697 (kal1 kok698 (kal1 kok699 (kal1 kok700 (kal1 kok701 (kal1 kok702 (kal1 kok703 (kal1 kok704 (kal1 kok705 (kal1 kok706 (kal1 kok707 (kal1 kok708 (kal1 kok709 (kal1 kok710 kal0))))))))))))))))))))))) ks911_7 (kcs1 (kal1 kok562 (kal1 kok565 (kal1 kok566 (kal1 kok711 (kal1 kok712 (kal1 kok713 (kal1 kok714 (kal1 kok715 (kal1 kok716 (kal1 kok717 (kal1 kok718 (kal1 kok719 (kal1 kok720 (kal1 kok721 (kal1 kok722 (kal1 kok723 (kal1 kok724 (kal1 kok725 (kal1 kok726 (kal1 kok727 (kal1 kok728 (kal1 kok729 (kal1 kok730 kal0))))))))))))))))))))))) ks911_8 (kcs1 (kal1 kok562 (kal1 kok565 (kal1 kok566 (kal1 kok731 (kal1 kok732 (kal1 kok733 (kal1 kok734 (kal1 kok735 (kal1 kok736 (kal1 kok737 (kal1 kok738 (kal1 kok739 (kal1 kok740 (kal1 kok741 (kal1 kok742 (kal1 kok743 (kal1 kok744 (kal1 kok745 (kal1 kok746 (kal1 kok747 (kal1 kok748 (kal1 kok749 (kal1 kok750 kal0))))))))))))))))))))))) ks911_9 (kcs1 (kal1 kok562 (kal1 kok565 (kal1 kok566 (kal1 kok751 (kal1 kok752 (kal1 kok753 (kal1 kok754 (kal1 kok755 (kal1 kok756 (kal1 kok757 (kal1 kok758 (kal1 kok759 (kal1 kok760 (kal1 kok761 (kal1 kok762 (kal1 kok763 (kal1 kok764 (kal1 kok765 (kal1 kok766 (kal1 kok767 (kal1 kok768 (kal1 kok769 (kal1 kok770 kal0))))))))))))))))))))))) ks911_10 (kcs1 (kal1 kok562 (kal1 kok565 (kal1 kok566 (kal1 kok771 (kal1 kok772 (kal1 kok773 (kal1 kok774 (kal1 kok775 (kal1 kok776 (kal1 kok777 (kal1 kok778 (kal1 kok779 (kal1 kok780 (kal1 kok781 (kal1 kok782 (kal1 kok783 (kal1 kok784 (kal1 kok785 (kal1 kok786 (kal1 kok787 (kal1 kok788 (kal1 kok789 (kal1 kok790 kal0))))))))))))))))))))))) ks911_11 (kcs1 (kal1 kok562 (kal1 kok565 (kal1 kok566 (kal1 kok791 (kal1 kok792 (kal1 kok793 (kal1 kok794 (kal1 kok795 (kal1 kok796 (kal1 kok797 (kal1 kok798 (kal1 kok799 (kal1 kok800 (kal1 kok801 (kal1 kok802 (kal1 kok803 (kal1 kok804 (kal1 kok805 (kal1 kok806 (kal1 kok807 (kal1 kok808 (kal1 kok809 (kal1 kok810 kal0))))))))))))))))))))))) ks911_12 (kcs1 (kal1 kok562 (kal1 kok565 (kal1 kok566 (kal1 kok811 (kal1 kok812 (kal1 kok813 (kal1 kok814 (kal1 kok815 (kal1 kok816 (kal1 kok817 (kal1 kok818 (kal1 kok819 (kal1 kok820 (kal1 kok821 (kal1 kok822 (kal1 kok823 (kal1 kok824 (kal1 kok825 (kal1 kok826 (kal1 kok827 (kal1 kok828 (kal1 kok829 (kal1 kok830 kal0))))))))))))))))))))))) ks911_13 (kcs1 (kal1 kok562 (kal1 kok565 (kal1 kok566 (kal1 kok831 (kal1 kok832 (kal1 kok833 (kal1 kok834 (kal1 kok835 (kal1 kok836 (kal1 kok837 (kal1 kok838 (kal1 kok839 (kal1 kok840 (kal1 kok841 (kal1 kok842 (kal1 kok843 (kal1 kok844 (kal1 kok845 (kal1 kok846 (kal1 kok847 (kal1 kok848 (kal1 kok849 (kal1 kok850 kal0))))))))))))))))))))))) ks911_14 (kcs1 (kal1 kok562 (kal1 kok565 (kal1 kok566 (kal1 kok851 (kal1 kok852 (kal1 kok853 (kal1 kok854 (kal1 kok855 (kal1 kok856 (kal1 kok857 (kal1 kok858 (kal1 kok859 (kal1 kok860 (kal1 kok861 (kal1 kok862 (kal1 kok863 (kal1 kok864 (kal1 kok865 (kal1 kok866 (kal1 kok867 (kal1 kok868 (kal1 kok869 (kal1 kok870 kal0))))))))))))))))))))))) ks911_15 (kcs1 (kal1 kok562 (kal1 kok565 (kal1 kok566 (kal1 kok871 (kal1 kok872 (kal1 kok873 (kal1 kok874 (kal1 kok875 (kal1 kok876 (kal1 kok877 (kal1 kok878 (kal1 kok879 (kal1 kok880 (kal1 kok881 (kal1 kok882 (kal1 kok883 (kal1 kok884 (kal1 kok885 (kal1 kok886 (kal1 kok887 (kal1 kok888 (kal1 kok889 (kal1 kok890 kal0))))))))))))))))))))))) ks911_16 (kcs1 (kal1 kok562 (kal1 kok565 (kal1 kok566 (kal1 kok891 (kal1 kok892 (kal1 kok893 (kal1 kok894 (kal1 kok895 (kal1 kok896 (kal1 kok897 (kal1 kok898 (kal1 kok899 (kal1 kok900 (kal1 kok901 (kal1 kok902 (kal1 kok903 (kal1 kok904 (kal1 kok905 (kal1 kok906 (kal1 kok907 (kal1 kok908 (kal1 kok909 (kal1 kok910 kal0))))))))))))))))))))))) ks911_17 kcs0)))))))))))))))))) ks911
/-- ColdShod.strokes(III)I -/
def kE912 : aE := (104, 7, ([(.negSucc 2147483647, .ofNat 2147483647), (.negSucc 2147483647, .ofNat 2147483647), (.negSucc 2147483647, .ofNat 2147483647)], [], 0, [some (.inr [6]), some (.inl (.inl (.inl (0, .ofNat 0)))), some (.inl (.inl (.inl (1, .ofNat 0)))), some (.inl (.inl (.inl (2, .ofNat 0)))), none, none], []), ([], none), ([(.negSucc 2147483647, .ofNat 2147483647)], [], some (.inl (.inl (.inl (3, .ofNat 0)))), ([], [])), ([(13, 0), (13, 1), (13, 2), (13, 3), (13, 4), (13, 5), (50, 1), (50, 2), (50, 3), (52, 6), (58, 0), (58, 1), (58, 2), (58, 3), (58, 4), (58, 5), (58, 6)], [16, 19, 51, 53, 54, 55, 56, 57]))
theorem ks912 : aseg kS krf kB [kE262, kE263, kE911] (ksp []) kE912 [] 30000 (none) = true := asgqw (by decide +kernel)
theorem kok912 : aOK kS krf kB kE912 := aOK_of (kal1 kok262 (kal1 kok263 (kal1 kok911 kal0))) kcl0 ks912
/-- ColdShodModel.goesJourney(I)V -/
def kE913 : aE := (188, 46, ([], [], 0, [kvR 102, kvN 5, none], []), ([], none), ([], [], none, ([], [])), kvW77)
def kC913_0 : aC := (([kvB 0 1, kvB 0 20], [(102, 25, .inl (1, .ofNat 0))], 12, [kvR 102, kvN 5, kvI 0], []), ([], []), (20, [(23, 0), (-1, 1)]))
theorem ks913 : aseg kS krf kB [kE219, kE89] (ksp []) kE913 [kC913_0] 30000 (none) = true := asgqw (by decide +kernel)
theorem ks913_0 : aseg kS krf kB [kE219, kE89] (ksp []) kE913 [kC913_0] 30000 (some kC913_0) = true := asgqw (by decide +kernel)
theorem kok913 : aOK kS krf kB kE913 := aOK_of (kal1 kok219 (kal1 kok89 kal0)) (kcl1 ks913_0 kcl0) ks913
/-- ColdShodModel.goesBy(IIII)Z -/
def kE914 : aE := (190, 47, ([kvB 0 7], [], 0, [kvR 102, kvN 5, kvI 0, kvN 4, kvN 4, none], []), ([], none), ([kvB 0 1], [], kvI 1, ([], [])), kvW78)
def kC914_0 : aC := (([kvB 0 7, kvB 0 4], [], 14, [kvR 102, kvN 5, kvI 0, kvN 4, kvN 4, kvI 1], []), ([], []), (4, [(-1, 1)]))
theorem ks914 : aseg kS krf kB [kE43, kE94, kE913, kE219] (ksp []) kE914 [kC914_0] 30000 (none) = true := asgqw (by decide +kernel)
theorem ks914_0 : aseg kS krf kB [kE43, kE94, kE913, kE219] (ksp []) kE914 [kC914_0] 30000 (some kC914_0) = true := asgqw (by decide +kernel)
theorem kok914 : aOK kS krf kB kE914 := aOK_of (kal1 kok43 (kal1 kok94 (kal1 kok913 (kal1 kok219 kal0)))) (kcl1 ks914_0 kcl0) ks914
/-- ColdShodModel.goesBy(IIII)Z -/
def kE915 : aE := (190, 48, ([kvB 0 7], [], 0, [kvR 102, kvN 5, kvI 0, kvN 3, kvN 4, none], []), ([], none), ([kvB 0 1], [], kvI 1, ([], [])), kvW79)
def kC915_0 : aC := (([kvB 0 7, kvB 0 4], [], 65, [kvR 102, kvN 5, kvI 0, kvN 3, kvN 4, kvI 1], []), ([], []), (4, [(-1, 1)]))
theorem ks915 : aseg kS krf kB [kE914] (ksp []) kE915 [kC915_0] 30000 (none) = true := asgqw (by decide +kernel)
theorem ks915_0 : aseg kS krf kB [kE914] (ksp []) kE915 [kC915_0] 30000 (some kC915_0) = true := asgqw (by decide +kernel)
theorem kok915 : aOK kS krf kB kE915 := aOK_of (kal1 kok914 kal0) (kcl1 ks915_0 kcl0) ks915
/-- ColdShodModel.goesBy(IIII)Z -/
def kE916 : aE := (190, 49, ([kvB 0 7], [], 0, [kvR 102, kvN 5, kvI 0, kvN 2, kvN 4, none], []), ([], none), ([kvB 0 1], [], kvI 1, ([], [])), kvW80)
def kC916_0 : aC := (([kvB 0 7, kvB 0 4], [], 65, [kvR 102, kvN 5, kvI 0, kvN 2, kvN 4, kvI 1], []), ([], []), (4, [(-1, 1)]))
theorem ks916 : aseg kS krf kB [kE915] (ksp []) kE916 [kC916_0] 30000 (none) = true := asgqw (by decide +kernel)
theorem ks916_0 : aseg kS krf kB [kE915] (ksp []) kE916 [kC916_0] 30000 (some kC916_0) = true := asgqw (by decide +kernel)
theorem kok916 : aOK kS krf kB kE916 := aOK_of (kal1 kok915 kal0) (kcl1 ks916_0 kcl0) ks916
/-- ColdShodModel.goesBy(IIII)Z -/
def kE917 : aE := (190, 50, ([kvB 0 7], [], 0, [kvR 102, kvN 5, kvI 0, kvN 1, kvN 4, none], []), ([], none), ([kvB 0 1], [], kvI 1, ([], [])), kvW81)
def kC917_0 : aC := (([kvB 0 7, kvB 0 4], [], 65, [kvR 102, kvN 5, kvI 0, kvN 1, kvN 4, kvI 1], []), ([], []), (4, [(-1, 1)]))
theorem ks917 : aseg kS krf kB [kE916] (ksp []) kE917 [kC917_0] 30000 (none) = true := asgqw (by decide +kernel)
theorem ks917_0 : aseg kS krf kB [kE916] (ksp []) kE917 [kC917_0] 30000 (some kC917_0) = true := asgqw (by decide +kernel)
theorem kok917 : aOK kS krf kB kE917 := aOK_of (kal1 kok916 kal0) (kcl1 ks917_0 kcl0) ks917
/-- ColdShodModel.goesBy(IIII)Z -/
def kE918 : aE := (190, 51, ([kvB 0 7], [], 0, [kvR 102, kvN 5, kvI 0, kvN 0, kvN 4, none], []), ([], none), ([kvB 0 1], [], kvI 1, ([], [])), kvW82)
def kC918_0 : aC := (([kvB 0 7, kvB 0 4], [], 65, [kvR 102, kvN 5, kvI 0, kvN 0, kvN 4, kvI 1], []), ([], []), (4, [(-1, 1)]))
theorem ks918 : aseg kS krf kB [kE917] (ksp []) kE918 [kC918_0] 30000 (none) = true := asgqw (by decide +kernel)
theorem ks918_0 : aseg kS krf kB [kE917] (ksp []) kE918 [kC918_0] 30000 (some kC918_0) = true := asgqw (by decide +kernel)
theorem kok918 : aOK kS krf kB kE918 := aOK_of (kal1 kok917 kal0) (kcl1 ks918_0 kcl0) ks918
/-- ColdShodModel.goesBy(IIII)Z -/
def kE919 : aE := (190, 47, ([kvB 0 7], [], 0, [kvR 102, kvN 5, kvI 0, kvN 3, kvN 3, none], []), ([], none), ([kvB 0 1], [], kvI 1, ([], [])), kvW78)
def kC919_0 : aC := (([kvB 0 7, kvB 0 3], [], 14, [kvR 102, kvN 5, kvI 0, kvN 3, kvN 3, kvI 1], []), ([], []), (3, [(-1, 1)]))
theorem ks919 : aseg kS krf kB [kE43, kE94, kE913, kE219] (ksp []) kE919 [kC919_0] 30000 (none) = true := asgqw (by decide +kernel)
theorem ks919_0 : aseg kS krf kB [kE43, kE94, kE913, kE219] (ksp []) kE919 [kC919_0] 30000 (some kC919_0) = true := asgqw (by decide +kernel)
theorem kok919 : aOK kS krf kB kE919 := aOK_of (kal1 kok43 (kal1 kok94 (kal1 kok913 (kal1 kok219 kal0)))) (kcl1 ks919_0 kcl0) ks919
/-- ColdShodModel.goesBy(IIII)Z -/
def kE920 : aE := (190, 48, ([kvB 0 7], [], 0, [kvR 102, kvN 5, kvI 0, kvN 2, kvN 3, none], []), ([], none), ([kvB 0 1], [], kvI 1, ([], [])), kvW83)
def kC920_0 : aC := (([kvB 0 7, kvB 0 4], [], 65, [kvR 102, kvN 5, kvI 0, kvN 2, kvN 3, kvI 1], []), ([], []), (4, [(-1, 1)]))
theorem ks920 : aseg kS krf kB [kE919] (ksp []) kE920 [kC920_0] 30000 (none) = true := asgqw (by decide +kernel)
theorem ks920_0 : aseg kS krf kB [kE919] (ksp []) kE920 [kC920_0] 30000 (some kC920_0) = true := asgqw (by decide +kernel)
theorem kok920 : aOK kS krf kB kE920 := aOK_of (kal1 kok919 kal0) (kcl1 ks920_0 kcl0) ks920
/-- ColdShodModel.goesBy(IIII)Z -/
def kE921 : aE := (190, 49, ([kvB 0 7], [], 0, [kvR 102, kvN 5, kvI 0, kvN 1, kvN 3, none], []), ([], none), ([kvB 0 1], [], kvI 1, ([], [])), kvW84)
def kC921_0 : aC := (([kvB 0 7, kvB 0 4], [], 65, [kvR 102, kvN 5, kvI 0, kvN 1, kvN 3, kvI 1], []), ([], []), (4, [(-1, 1)]))
theorem ks921 : aseg kS krf kB [kE920] (ksp []) kE921 [kC921_0] 30000 (none) = true := asgqw (by decide +kernel)
theorem ks921_0 : aseg kS krf kB [kE920] (ksp []) kE921 [kC921_0] 30000 (some kC921_0) = true := asgqw (by decide +kernel)
theorem kok921 : aOK kS krf kB kE921 := aOK_of (kal1 kok920 kal0) (kcl1 ks921_0 kcl0) ks921
/-- ColdShodModel.goesBy(IIII)Z -/
def kE922 : aE := (190, 50, ([kvB 0 7], [], 0, [kvR 102, kvN 5, kvI 0, kvN 0, kvN 3, none], []), ([], none), ([kvB 0 1], [], kvI 1, ([], [])), kvW85)
def kC922_0 : aC := (([kvB 0 7, kvB 0 4], [], 65, [kvR 102, kvN 5, kvI 0, kvN 0, kvN 3, kvI 1], []), ([], []), (4, [(-1, 1)]))
theorem ks922 : aseg kS krf kB [kE921] (ksp []) kE922 [kC922_0] 30000 (none) = true := asgqw (by decide +kernel)
theorem ks922_0 : aseg kS krf kB [kE921] (ksp []) kE922 [kC922_0] 30000 (some kC922_0) = true := asgqw (by decide +kernel)
theorem kok922 : aOK kS krf kB kE922 := aOK_of (kal1 kok921 kal0) (kcl1 ks922_0 kcl0) ks922
/-- ColdShodModel.goesBy(IIII)Z -/
def kE923 : aE := (190, 47, ([kvB 0 7], [], 0, [kvR 102, kvN 5, kvI 0, kvN 2, kvN 2, none], []), ([], none), ([kvB 0 1], [], kvI 1, ([], [])), kvW78)
def kC923_0 : aC := (([kvB 0 7, kvB 0 2], [], 14, [kvR 102, kvN 5, kvI 0, kvN 2, kvN 2, kvI 1], []), ([], []), (2, [(-1, 1)]))
theorem ks923 : aseg kS krf kB [kE43, kE94, kE913, kE219] (ksp []) kE923 [kC923_0] 30000 (none) = true := asgqw (by decide +kernel)
theorem ks923_0 : aseg kS krf kB [kE43, kE94, kE913, kE219] (ksp []) kE923 [kC923_0] 30000 (some kC923_0) = true := asgqw (by decide +kernel)
theorem kok923 : aOK kS krf kB kE923 := aOK_of (kal1 kok43 (kal1 kok94 (kal1 kok913 (kal1 kok219 kal0)))) (kcl1 ks923_0 kcl0) ks923
/-- ColdShodModel.goesBy(IIII)Z -/
def kE924 : aE := (190, 48, ([kvB 0 7], [], 0, [kvR 102, kvN 5, kvI 0, kvN 1, kvN 2, none], []), ([], none), ([kvB 0 1], [], kvI 1, ([], [])), kvW86)
def kC924_0 : aC := (([kvB 0 7, kvB 0 4], [], 65, [kvR 102, kvN 5, kvI 0, kvN 1, kvN 2, kvI 1], []), ([], []), (4, [(-1, 1)]))
theorem ks924 : aseg kS krf kB [kE923] (ksp []) kE924 [kC924_0] 30000 (none) = true := asgqw (by decide +kernel)
theorem ks924_0 : aseg kS krf kB [kE923] (ksp []) kE924 [kC924_0] 30000 (some kC924_0) = true := asgqw (by decide +kernel)
theorem kok924 : aOK kS krf kB kE924 := aOK_of (kal1 kok923 kal0) (kcl1 ks924_0 kcl0) ks924
/-- ColdShodModel.goesBy(IIII)Z -/
def kE925 : aE := (190, 49, ([kvB 0 7], [], 0, [kvR 102, kvN 5, kvI 0, kvN 0, kvN 2, none], []), ([], none), ([kvB 0 1], [], kvI 1, ([], [])), kvW87)
def kC925_0 : aC := (([kvB 0 7, kvB 0 4], [], 65, [kvR 102, kvN 5, kvI 0, kvN 0, kvN 2, kvI 1], []), ([], []), (4, [(-1, 1)]))
theorem ks925 : aseg kS krf kB [kE924] (ksp []) kE925 [kC925_0] 30000 (none) = true := asgqw (by decide +kernel)
theorem ks925_0 : aseg kS krf kB [kE924] (ksp []) kE925 [kC925_0] 30000 (some kC925_0) = true := asgqw (by decide +kernel)
theorem kok925 : aOK kS krf kB kE925 := aOK_of (kal1 kok924 kal0) (kcl1 ks925_0 kcl0) ks925
/-- ColdShodModel.goesBy(IIII)Z -/
def kE926 : aE := (190, 47, ([kvB 0 7], [], 0, [kvR 102, kvN 5, kvI 0, kvN 1, kvN 1, none], []), ([], none), ([kvB 0 1], [], kvI 1, ([], [])), kvW78)
def kC926_0 : aC := (([kvB 0 7, kvB 0 1], [], 14, [kvR 102, kvN 5, kvI 0, kvN 1, kvN 1, kvI 1], []), ([], []), (1, [(-1, 1)]))
theorem ks926 : aseg kS krf kB [kE43, kE94, kE913, kE219] (ksp []) kE926 [kC926_0] 30000 (none) = true := asgqw (by decide +kernel)
theorem ks926_0 : aseg kS krf kB [kE43, kE94, kE913, kE219] (ksp []) kE926 [kC926_0] 30000 (some kC926_0) = true := asgqw (by decide +kernel)
theorem kok926 : aOK kS krf kB kE926 := aOK_of (kal1 kok43 (kal1 kok94 (kal1 kok913 (kal1 kok219 kal0)))) (kcl1 ks926_0 kcl0) ks926
/-- ColdShodModel.goesBy(IIII)Z -/
def kE927 : aE := (190, 48, ([kvB 0 7], [], 0, [kvR 102, kvN 5, kvI 0, kvN 0, kvN 1, none], []), ([], none), ([kvB 0 1], [], kvI 1, ([], [])), kvW88)
def kC927_0 : aC := (([kvB 0 7, kvB 0 4], [], 65, [kvR 102, kvN 5, kvI 0, kvN 0, kvN 1, kvI 1], []), ([], []), (4, [(-1, 1)]))
theorem ks927 : aseg kS krf kB [kE926] (ksp []) kE927 [kC927_0] 30000 (none) = true := asgqw (by decide +kernel)
theorem ks927_0 : aseg kS krf kB [kE926] (ksp []) kE927 [kC927_0] 30000 (some kC927_0) = true := asgqw (by decide +kernel)
theorem kok927 : aOK kS krf kB kE927 := aOK_of (kal1 kok926 kal0) (kcl1 ks927_0 kcl0) ks927
/-- ColdShodModel.goesBy(IIII)Z -/
def kE928 : aE := (190, 47, ([kvB 0 7], [], 0, [kvR 102, kvN 5, kvI 0, kvN 0, kvN 0, none], []), ([], none), ([kvB 0 1], [], kvI 1, ([], [])), kvW78)
def kC928_0 : aC := (([kvB 0 7], [], 14, [kvR 102, kvN 5, kvI 0, kvN 0, kvN 0, kvN 0], []), ([], []), (0, []))
theorem ks928 : aseg kS krf kB [kE43, kE913, kE219] (ksp []) kE928 [kC928_0] 30000 (none) = true := asgqw (by decide +kernel)
theorem ks928_0 : aseg kS krf kB [kE43, kE913, kE219] (ksp []) kE928 [kC928_0] 30000 (some kC928_0) = true := asgqw (by decide +kernel)
theorem kok928 : aOK kS krf kB kE928 := aOK_of (kal1 kok43 (kal1 kok913 (kal1 kok219 kal0))) (kcl1 ks928_0 kcl0) ks928
/-- ColdShodModel.goesJourney(I)V -/
def kE929 : aE := (188, 46, ([], [], 0, [kvR 102, kvN 4, none], []), ([], none), ([], [], none, ([], [])), kvW77)
def kC929_0 : aC := (([kvB 0 1, kvB 0 20], [(102, 25, .inl (1, .ofNat 0))], 12, [kvR 102, kvN 4, kvI 0], []), ([], []), (20, [(23, 0), (-1, 1)]))
theorem ks929 : aseg kS krf kB [kE226, kE89] (ksp []) kE929 [kC929_0] 30000 (none) = true := asgqw (by decide +kernel)
theorem ks929_0 : aseg kS krf kB [kE226, kE89] (ksp []) kE929 [kC929_0] 30000 (some kC929_0) = true := asgqw (by decide +kernel)
theorem kok929 : aOK kS krf kB kE929 := aOK_of (kal1 kok226 (kal1 kok89 kal0)) (kcl1 ks929_0 kcl0) ks929
/-- ColdShodModel.goesBy(IIII)Z -/
def kE930 : aE := (190, 47, ([kvB 0 7], [], 0, [kvR 102, kvN 4, kvI 0, kvN 4, kvN 4, none], []), ([], none), ([kvB 0 1], [], kvI 1, ([], [])), kvW78)
def kC930_0 : aC := (([kvB 0 7, kvB 0 4], [], 14, [kvR 102, kvN 4, kvI 0, kvN 4, kvN 4, kvI 1], []), ([], []), (4, [(-1, 1)]))
theorem ks930 : aseg kS krf kB [kE43, kE94, kE929, kE226] (ksp []) kE930 [kC930_0] 30000 (none) = true := asgqw (by decide +kernel)
theorem ks930_0 : aseg kS krf kB [kE43, kE94, kE929, kE226] (ksp []) kE930 [kC930_0] 30000 (some kC930_0) = true := asgqw (by decide +kernel)
theorem kok930 : aOK kS krf kB kE930 := aOK_of (kal1 kok43 (kal1 kok94 (kal1 kok929 (kal1 kok226 kal0)))) (kcl1 ks930_0 kcl0) ks930
/-- ColdShodModel.goesBy(IIII)Z -/
def kE931 : aE := (190, 48, ([kvB 0 7], [], 0, [kvR 102, kvN 4, kvI 0, kvN 3, kvN 4, none], []), ([], none), ([kvB 0 1], [], kvI 1, ([], [])), kvW79)
def kC931_0 : aC := (([kvB 0 7, kvB 0 4], [], 65, [kvR 102, kvN 4, kvI 0, kvN 3, kvN 4, kvI 1], []), ([], []), (4, [(-1, 1)]))
theorem ks931 : aseg kS krf kB [kE930] (ksp []) kE931 [kC931_0] 30000 (none) = true := asgqw (by decide +kernel)
theorem ks931_0 : aseg kS krf kB [kE930] (ksp []) kE931 [kC931_0] 30000 (some kC931_0) = true := asgqw (by decide +kernel)
theorem kok931 : aOK kS krf kB kE931 := aOK_of (kal1 kok930 kal0) (kcl1 ks931_0 kcl0) ks931
/-- ColdShodModel.goesBy(IIII)Z -/
def kE932 : aE := (190, 49, ([kvB 0 7], [], 0, [kvR 102, kvN 4, kvI 0, kvN 2, kvN 4, none], []), ([], none), ([kvB 0 1], [], kvI 1, ([], [])), kvW80)
def kC932_0 : aC := (([kvB 0 7, kvB 0 4], [], 65, [kvR 102, kvN 4, kvI 0, kvN 2, kvN 4, kvI 1], []), ([], []), (4, [(-1, 1)]))
theorem ks932 : aseg kS krf kB [kE931] (ksp []) kE932 [kC932_0] 30000 (none) = true := asgqw (by decide +kernel)
theorem ks932_0 : aseg kS krf kB [kE931] (ksp []) kE932 [kC932_0] 30000 (some kC932_0) = true := asgqw (by decide +kernel)
theorem kok932 : aOK kS krf kB kE932 := aOK_of (kal1 kok931 kal0) (kcl1 ks932_0 kcl0) ks932
/-- ColdShodModel.goesBy(IIII)Z -/
def kE933 : aE := (190, 50, ([kvB 0 7], [], 0, [kvR 102, kvN 4, kvI 0, kvN 1, kvN 4, none], []), ([], none), ([kvB 0 1], [], kvI 1, ([], [])), kvW81)
def kC933_0 : aC := (([kvB 0 7, kvB 0 4], [], 65, [kvR 102, kvN 4, kvI 0, kvN 1, kvN 4, kvI 1], []), ([], []), (4, [(-1, 1)]))
theorem ks933 : aseg kS krf kB [kE932] (ksp []) kE933 [kC933_0] 30000 (none) = true := asgqw (by decide +kernel)
theorem ks933_0 : aseg kS krf kB [kE932] (ksp []) kE933 [kC933_0] 30000 (some kC933_0) = true := asgqw (by decide +kernel)
theorem kok933 : aOK kS krf kB kE933 := aOK_of (kal1 kok932 kal0) (kcl1 ks933_0 kcl0) ks933
/-- ColdShodModel.goesBy(IIII)Z -/
def kE934 : aE := (190, 51, ([kvB 0 7], [], 0, [kvR 102, kvN 4, kvI 0, kvN 0, kvN 4, none], []), ([], none), ([kvB 0 1], [], kvI 1, ([], [])), kvW82)
def kC934_0 : aC := (([kvB 0 7, kvB 0 4], [], 65, [kvR 102, kvN 4, kvI 0, kvN 0, kvN 4, kvI 1], []), ([], []), (4, [(-1, 1)]))
theorem ks934 : aseg kS krf kB [kE933] (ksp []) kE934 [kC934_0] 30000 (none) = true := asgqw (by decide +kernel)
theorem ks934_0 : aseg kS krf kB [kE933] (ksp []) kE934 [kC934_0] 30000 (some kC934_0) = true := asgqw (by decide +kernel)
theorem kok934 : aOK kS krf kB kE934 := aOK_of (kal1 kok933 kal0) (kcl1 ks934_0 kcl0) ks934
/-- ColdShodModel.goesBy(IIII)Z -/
def kE935 : aE := (190, 47, ([kvB 0 7], [], 0, [kvR 102, kvN 4, kvI 0, kvN 3, kvN 3, none], []), ([], none), ([kvB 0 1], [], kvI 1, ([], [])), kvW78)
def kC935_0 : aC := (([kvB 0 7, kvB 0 3], [], 14, [kvR 102, kvN 4, kvI 0, kvN 3, kvN 3, kvI 1], []), ([], []), (3, [(-1, 1)]))
theorem ks935 : aseg kS krf kB [kE43, kE94, kE929, kE226] (ksp []) kE935 [kC935_0] 30000 (none) = true := asgqw (by decide +kernel)
theorem ks935_0 : aseg kS krf kB [kE43, kE94, kE929, kE226] (ksp []) kE935 [kC935_0] 30000 (some kC935_0) = true := asgqw (by decide +kernel)
theorem kok935 : aOK kS krf kB kE935 := aOK_of (kal1 kok43 (kal1 kok94 (kal1 kok929 (kal1 kok226 kal0)))) (kcl1 ks935_0 kcl0) ks935
/-- ColdShodModel.goesBy(IIII)Z -/
def kE936 : aE := (190, 48, ([kvB 0 7], [], 0, [kvR 102, kvN 4, kvI 0, kvN 2, kvN 3, none], []), ([], none), ([kvB 0 1], [], kvI 1, ([], [])), kvW83)
def kC936_0 : aC := (([kvB 0 7, kvB 0 4], [], 65, [kvR 102, kvN 4, kvI 0, kvN 2, kvN 3, kvI 1], []), ([], []), (4, [(-1, 1)]))
theorem ks936 : aseg kS krf kB [kE935] (ksp []) kE936 [kC936_0] 30000 (none) = true := asgqw (by decide +kernel)
theorem ks936_0 : aseg kS krf kB [kE935] (ksp []) kE936 [kC936_0] 30000 (some kC936_0) = true := asgqw (by decide +kernel)
theorem kok936 : aOK kS krf kB kE936 := aOK_of (kal1 kok935 kal0) (kcl1 ks936_0 kcl0) ks936
/-- ColdShodModel.goesBy(IIII)Z -/
def kE937 : aE := (190, 49, ([kvB 0 7], [], 0, [kvR 102, kvN 4, kvI 0, kvN 1, kvN 3, none], []), ([], none), ([kvB 0 1], [], kvI 1, ([], [])), kvW84)
def kC937_0 : aC := (([kvB 0 7, kvB 0 4], [], 65, [kvR 102, kvN 4, kvI 0, kvN 1, kvN 3, kvI 1], []), ([], []), (4, [(-1, 1)]))
theorem ks937 : aseg kS krf kB [kE936] (ksp []) kE937 [kC937_0] 30000 (none) = true := asgqw (by decide +kernel)
theorem ks937_0 : aseg kS krf kB [kE936] (ksp []) kE937 [kC937_0] 30000 (some kC937_0) = true := asgqw (by decide +kernel)
theorem kok937 : aOK kS krf kB kE937 := aOK_of (kal1 kok936 kal0) (kcl1 ks937_0 kcl0) ks937
/-- ColdShodModel.goesBy(IIII)Z -/
def kE938 : aE := (190, 50, ([kvB 0 7], [], 0, [kvR 102, kvN 4, kvI 0, kvN 0, kvN 3, none], []), ([], none), ([kvB 0 1], [], kvI 1, ([], [])), kvW85)
def kC938_0 : aC := (([kvB 0 7, kvB 0 4], [], 65, [kvR 102, kvN 4, kvI 0, kvN 0, kvN 3, kvI 1], []), ([], []), (4, [(-1, 1)]))
theorem ks938 : aseg kS krf kB [kE937] (ksp []) kE938 [kC938_0] 30000 (none) = true := asgqw (by decide +kernel)
theorem ks938_0 : aseg kS krf kB [kE937] (ksp []) kE938 [kC938_0] 30000 (some kC938_0) = true := asgqw (by decide +kernel)
theorem kok938 : aOK kS krf kB kE938 := aOK_of (kal1 kok937 kal0) (kcl1 ks938_0 kcl0) ks938
/-- ColdShodModel.goesBy(IIII)Z -/
def kE939 : aE := (190, 47, ([kvB 0 7], [], 0, [kvR 102, kvN 4, kvI 0, kvN 2, kvN 2, none], []), ([], none), ([kvB 0 1], [], kvI 1, ([], [])), kvW78)
def kC939_0 : aC := (([kvB 0 7, kvB 0 2], [], 14, [kvR 102, kvN 4, kvI 0, kvN 2, kvN 2, kvI 1], []), ([], []), (2, [(-1, 1)]))
theorem ks939 : aseg kS krf kB [kE43, kE94, kE929, kE226] (ksp []) kE939 [kC939_0] 30000 (none) = true := asgqw (by decide +kernel)
theorem ks939_0 : aseg kS krf kB [kE43, kE94, kE929, kE226] (ksp []) kE939 [kC939_0] 30000 (some kC939_0) = true := asgqw (by decide +kernel)
theorem kok939 : aOK kS krf kB kE939 := aOK_of (kal1 kok43 (kal1 kok94 (kal1 kok929 (kal1 kok226 kal0)))) (kcl1 ks939_0 kcl0) ks939
/-- ColdShodModel.goesBy(IIII)Z -/
def kE940 : aE := (190, 48, ([kvB 0 7], [], 0, [kvR 102, kvN 4, kvI 0, kvN 1, kvN 2, none], []), ([], none), ([kvB 0 1], [], kvI 1, ([], [])), kvW86)
def kC940_0 : aC := (([kvB 0 7, kvB 0 4], [], 65, [kvR 102, kvN 4, kvI 0, kvN 1, kvN 2, kvI 1], []), ([], []), (4, [(-1, 1)]))
theorem ks940 : aseg kS krf kB [kE939] (ksp []) kE940 [kC940_0] 30000 (none) = true := asgqw (by decide +kernel)
theorem ks940_0 : aseg kS krf kB [kE939] (ksp []) kE940 [kC940_0] 30000 (some kC940_0) = true := asgqw (by decide +kernel)
theorem kok940 : aOK kS krf kB kE940 := aOK_of (kal1 kok939 kal0) (kcl1 ks940_0 kcl0) ks940
/-- ColdShodModel.goesBy(IIII)Z -/
def kE941 : aE := (190, 49, ([kvB 0 7], [], 0, [kvR 102, kvN 4, kvI 0, kvN 0, kvN 2, none], []), ([], none), ([kvB 0 1], [], kvI 1, ([], [])), kvW87)
def kC941_0 : aC := (([kvB 0 7, kvB 0 4], [], 65, [kvR 102, kvN 4, kvI 0, kvN 0, kvN 2, kvI 1], []), ([], []), (4, [(-1, 1)]))
theorem ks941 : aseg kS krf kB [kE940] (ksp []) kE941 [kC941_0] 30000 (none) = true := asgqw (by decide +kernel)
theorem ks941_0 : aseg kS krf kB [kE940] (ksp []) kE941 [kC941_0] 30000 (some kC941_0) = true := asgqw (by decide +kernel)
theorem kok941 : aOK kS krf kB kE941 := aOK_of (kal1 kok940 kal0) (kcl1 ks941_0 kcl0) ks941
/-- ColdShodModel.goesBy(IIII)Z -/
def kE942 : aE := (190, 47, ([kvB 0 7], [], 0, [kvR 102, kvN 4, kvI 0, kvN 1, kvN 1, none], []), ([], none), ([kvB 0 1], [], kvI 1, ([], [])), kvW78)
def kC942_0 : aC := (([kvB 0 7, kvB 0 1], [], 14, [kvR 102, kvN 4, kvI 0, kvN 1, kvN 1, kvI 1], []), ([], []), (1, [(-1, 1)]))
theorem ks942 : aseg kS krf kB [kE43, kE94, kE929, kE226] (ksp []) kE942 [kC942_0] 30000 (none) = true := asgqw (by decide +kernel)
theorem ks942_0 : aseg kS krf kB [kE43, kE94, kE929, kE226] (ksp []) kE942 [kC942_0] 30000 (some kC942_0) = true := asgqw (by decide +kernel)
theorem kok942 : aOK kS krf kB kE942 := aOK_of (kal1 kok43 (kal1 kok94 (kal1 kok929 (kal1 kok226 kal0)))) (kcl1 ks942_0 kcl0) ks942
/-- ColdShodModel.goesBy(IIII)Z -/
def kE943 : aE := (190, 48, ([kvB 0 7], [], 0, [kvR 102, kvN 4, kvI 0, kvN 0, kvN 1, none], []), ([], none), ([kvB 0 1], [], kvI 1, ([], [])), kvW88)
def kC943_0 : aC := (([kvB 0 7, kvB 0 4], [], 65, [kvR 102, kvN 4, kvI 0, kvN 0, kvN 1, kvI 1], []), ([], []), (4, [(-1, 1)]))
theorem ks943 : aseg kS krf kB [kE942] (ksp []) kE943 [kC943_0] 30000 (none) = true := asgqw (by decide +kernel)
theorem ks943_0 : aseg kS krf kB [kE942] (ksp []) kE943 [kC943_0] 30000 (some kC943_0) = true := asgqw (by decide +kernel)
theorem kok943 : aOK kS krf kB kE943 := aOK_of (kal1 kok942 kal0) (kcl1 ks943_0 kcl0) ks943
/-- ColdShodModel.goesBy(IIII)Z -/
def kE944 : aE := (190, 47, ([kvB 0 7], [], 0, [kvR 102, kvN 4, kvI 0, kvN 0, kvN 0, none], []), ([], none), ([kvB 0 1], [], kvI 1, ([], [])), kvW78)
def kC944_0 : aC := (([kvB 0 7], [], 14, [kvR 102, kvN 4, kvI 0, kvN 0, kvN 0, kvN 0], []), ([], []), (0, []))
theorem ks944 : aseg kS krf kB [kE43, kE929, kE226] (ksp []) kE944 [kC944_0] 30000 (none) = true := asgqw (by decide +kernel)
theorem ks944_0 : aseg kS krf kB [kE43, kE929, kE226] (ksp []) kE944 [kC944_0] 30000 (some kC944_0) = true := asgqw (by decide +kernel)
theorem kok944 : aOK kS krf kB kE944 := aOK_of (kal1 kok43 (kal1 kok929 (kal1 kok226 kal0))) (kcl1 ks944_0 kcl0) ks944
/-- ColdShodModel.goesJourney(I)V -/
def kE945 : aE := (188, 46, ([], [], 0, [kvR 102, kvN 3, none], []), ([], none), ([], [], none, ([], [])), kvW77)
def kC945_0 : aC := (([kvB 0 1, kvB 0 20], [(102, 25, .inl (1, .ofNat 0))], 12, [kvR 102, kvN 3, kvI 0], []), ([], []), (20, [(23, 0), (-1, 1)]))
theorem ks945 : aseg kS krf kB [kE233, kE89] (ksp []) kE945 [kC945_0] 30000 (none) = true := asgqw (by decide +kernel)
theorem ks945_0 : aseg kS krf kB [kE233, kE89] (ksp []) kE945 [kC945_0] 30000 (some kC945_0) = true := asgqw (by decide +kernel)
theorem kok945 : aOK kS krf kB kE945 := aOK_of (kal1 kok233 (kal1 kok89 kal0)) (kcl1 ks945_0 kcl0) ks945
/-- ColdShodModel.goesBy(IIII)Z -/
def kE946 : aE := (190, 47, ([kvB 0 7], [], 0, [kvR 102, kvN 3, kvI 0, kvN 4, kvN 4, none], []), ([], none), ([kvB 0 1], [], kvI 1, ([], [])), kvW78)
def kC946_0 : aC := (([kvB 0 7, kvB 0 4], [], 14, [kvR 102, kvN 3, kvI 0, kvN 4, kvN 4, kvI 1], []), ([], []), (4, [(-1, 1)]))
theorem ks946 : aseg kS krf kB [kE43, kE94, kE945, kE233] (ksp []) kE946 [kC946_0] 30000 (none) = true := asgqw (by decide +kernel)
theorem ks946_0 : aseg kS krf kB [kE43, kE94, kE945, kE233] (ksp []) kE946 [kC946_0] 30000 (some kC946_0) = true := asgqw (by decide +kernel)
theorem kok946 : aOK kS krf kB kE946 := aOK_of (kal1 kok43 (kal1 kok94 (kal1 kok945 (kal1 kok233 kal0)))) (kcl1 ks946_0 kcl0) ks946
/-- ColdShodModel.goesBy(IIII)Z -/
def kE947 : aE := (190, 48, ([kvB 0 7], [], 0, [kvR 102, kvN 3, kvI 0, kvN 3, kvN 4, none], []), ([], none), ([kvB 0 1], [], kvI 1, ([], [])), kvW79)
def kC947_0 : aC := (([kvB 0 7, kvB 0 4], [], 65, [kvR 102, kvN 3, kvI 0, kvN 3, kvN 4, kvI 1], []), ([], []), (4, [(-1, 1)]))
theorem ks947 : aseg kS krf kB [kE946] (ksp []) kE947 [kC947_0] 30000 (none) = true := asgqw (by decide +kernel)
theorem ks947_0 : aseg kS krf kB [kE946] (ksp []) kE947 [kC947_0] 30000 (some kC947_0) = true := asgqw (by decide +kernel)
theorem kok947 : aOK kS krf kB kE947 := aOK_of (kal1 kok946 kal0) (kcl1 ks947_0 kcl0) ks947
/-- ColdShodModel.goesBy(IIII)Z -/
def kE948 : aE := (190, 49, ([kvB 0 7], [], 0, [kvR 102, kvN 3, kvI 0, kvN 2, kvN 4, none], []), ([], none), ([kvB 0 1], [], kvI 1, ([], [])), kvW80)
def kC948_0 : aC := (([kvB 0 7, kvB 0 4], [], 65, [kvR 102, kvN 3, kvI 0, kvN 2, kvN 4, kvI 1], []), ([], []), (4, [(-1, 1)]))
theorem ks948 : aseg kS krf kB [kE947] (ksp []) kE948 [kC948_0] 30000 (none) = true := asgqw (by decide +kernel)
theorem ks948_0 : aseg kS krf kB [kE947] (ksp []) kE948 [kC948_0] 30000 (some kC948_0) = true := asgqw (by decide +kernel)
theorem kok948 : aOK kS krf kB kE948 := aOK_of (kal1 kok947 kal0) (kcl1 ks948_0 kcl0) ks948
/-- ColdShodModel.goesBy(IIII)Z -/
def kE949 : aE := (190, 50, ([kvB 0 7], [], 0, [kvR 102, kvN 3, kvI 0, kvN 1, kvN 4, none], []), ([], none), ([kvB 0 1], [], kvI 1, ([], [])), kvW81)
def kC949_0 : aC := (([kvB 0 7, kvB 0 4], [], 65, [kvR 102, kvN 3, kvI 0, kvN 1, kvN 4, kvI 1], []), ([], []), (4, [(-1, 1)]))
theorem ks949 : aseg kS krf kB [kE948] (ksp []) kE949 [kC949_0] 30000 (none) = true := asgqw (by decide +kernel)
theorem ks949_0 : aseg kS krf kB [kE948] (ksp []) kE949 [kC949_0] 30000 (some kC949_0) = true := asgqw (by decide +kernel)
theorem kok949 : aOK kS krf kB kE949 := aOK_of (kal1 kok948 kal0) (kcl1 ks949_0 kcl0) ks949
/-- ColdShodModel.goesBy(IIII)Z -/
def kE950 : aE := (190, 51, ([kvB 0 7], [], 0, [kvR 102, kvN 3, kvI 0, kvN 0, kvN 4, none], []), ([], none), ([kvB 0 1], [], kvI 1, ([], [])), kvW82)
def kC950_0 : aC := (([kvB 0 7, kvB 0 4], [], 65, [kvR 102, kvN 3, kvI 0, kvN 0, kvN 4, kvI 1], []), ([], []), (4, [(-1, 1)]))
theorem ks950 : aseg kS krf kB [kE949] (ksp []) kE950 [kC950_0] 30000 (none) = true := asgqw (by decide +kernel)
theorem ks950_0 : aseg kS krf kB [kE949] (ksp []) kE950 [kC950_0] 30000 (some kC950_0) = true := asgqw (by decide +kernel)
theorem kok950 : aOK kS krf kB kE950 := aOK_of (kal1 kok949 kal0) (kcl1 ks950_0 kcl0) ks950
/-- ColdShodModel.goesBy(IIII)Z -/
def kE951 : aE := (190, 47, ([kvB 0 7], [], 0, [kvR 102, kvN 3, kvI 0, kvN 3, kvN 3, none], []), ([], none), ([kvB 0 1], [], kvI 1, ([], [])), kvW78)
def kC951_0 : aC := (([kvB 0 7, kvB 0 3], [], 14, [kvR 102, kvN 3, kvI 0, kvN 3, kvN 3, kvI 1], []), ([], []), (3, [(-1, 1)]))
theorem ks951 : aseg kS krf kB [kE43, kE94, kE945, kE233] (ksp []) kE951 [kC951_0] 30000 (none) = true := asgqw (by decide +kernel)
theorem ks951_0 : aseg kS krf kB [kE43, kE94, kE945, kE233] (ksp []) kE951 [kC951_0] 30000 (some kC951_0) = true := asgqw (by decide +kernel)
theorem kok951 : aOK kS krf kB kE951 := aOK_of (kal1 kok43 (kal1 kok94 (kal1 kok945 (kal1 kok233 kal0)))) (kcl1 ks951_0 kcl0) ks951
/-- ColdShodModel.goesBy(IIII)Z -/
def kE952 : aE := (190, 48, ([kvB 0 7], [], 0, [kvR 102, kvN 3, kvI 0, kvN 2, kvN 3, none], []), ([], none), ([kvB 0 1], [], kvI 1, ([], [])), kvW83)
def kC952_0 : aC := (([kvB 0 7, kvB 0 4], [], 65, [kvR 102, kvN 3, kvI 0, kvN 2, kvN 3, kvI 1], []), ([], []), (4, [(-1, 1)]))
theorem ks952 : aseg kS krf kB [kE951] (ksp []) kE952 [kC952_0] 30000 (none) = true := asgqw (by decide +kernel)
theorem ks952_0 : aseg kS krf kB [kE951] (ksp []) kE952 [kC952_0] 30000 (some kC952_0) = true := asgqw (by decide +kernel)
theorem kok952 : aOK kS krf kB kE952 := aOK_of (kal1 kok951 kal0) (kcl1 ks952_0 kcl0) ks952
/-- ColdShodModel.goesBy(IIII)Z -/
def kE953 : aE := (190, 49, ([kvB 0 7], [], 0, [kvR 102, kvN 3, kvI 0, kvN 1, kvN 3, none], []), ([], none), ([kvB 0 1], [], kvI 1, ([], [])), kvW84)
def kC953_0 : aC := (([kvB 0 7, kvB 0 4], [], 65, [kvR 102, kvN 3, kvI 0, kvN 1, kvN 3, kvI 1], []), ([], []), (4, [(-1, 1)]))
theorem ks953 : aseg kS krf kB [kE952] (ksp []) kE953 [kC953_0] 30000 (none) = true := asgqw (by decide +kernel)
theorem ks953_0 : aseg kS krf kB [kE952] (ksp []) kE953 [kC953_0] 30000 (some kC953_0) = true := asgqw (by decide +kernel)
theorem kok953 : aOK kS krf kB kE953 := aOK_of (kal1 kok952 kal0) (kcl1 ks953_0 kcl0) ks953
/-- ColdShodModel.goesBy(IIII)Z -/
def kE954 : aE := (190, 50, ([kvB 0 7], [], 0, [kvR 102, kvN 3, kvI 0, kvN 0, kvN 3, none], []), ([], none), ([kvB 0 1], [], kvI 1, ([], [])), kvW85)
def kC954_0 : aC := (([kvB 0 7, kvB 0 4], [], 65, [kvR 102, kvN 3, kvI 0, kvN 0, kvN 3, kvI 1], []), ([], []), (4, [(-1, 1)]))
theorem ks954 : aseg kS krf kB [kE953] (ksp []) kE954 [kC954_0] 30000 (none) = true := asgqw (by decide +kernel)
theorem ks954_0 : aseg kS krf kB [kE953] (ksp []) kE954 [kC954_0] 30000 (some kC954_0) = true := asgqw (by decide +kernel)
theorem kok954 : aOK kS krf kB kE954 := aOK_of (kal1 kok953 kal0) (kcl1 ks954_0 kcl0) ks954
/-- ColdShodModel.goesBy(IIII)Z -/
def kE955 : aE := (190, 47, ([kvB 0 7], [], 0, [kvR 102, kvN 3, kvI 0, kvN 2, kvN 2, none], []), ([], none), ([kvB 0 1], [], kvI 1, ([], [])), kvW78)
def kC955_0 : aC := (([kvB 0 7, kvB 0 2], [], 14, [kvR 102, kvN 3, kvI 0, kvN 2, kvN 2, kvI 1], []), ([], []), (2, [(-1, 1)]))
theorem ks955 : aseg kS krf kB [kE43, kE94, kE945, kE233] (ksp []) kE955 [kC955_0] 30000 (none) = true := asgqw (by decide +kernel)
theorem ks955_0 : aseg kS krf kB [kE43, kE94, kE945, kE233] (ksp []) kE955 [kC955_0] 30000 (some kC955_0) = true := asgqw (by decide +kernel)
theorem kok955 : aOK kS krf kB kE955 := aOK_of (kal1 kok43 (kal1 kok94 (kal1 kok945 (kal1 kok233 kal0)))) (kcl1 ks955_0 kcl0) ks955
/-- ColdShodModel.goesBy(IIII)Z -/
def kE956 : aE := (190, 48, ([kvB 0 7], [], 0, [kvR 102, kvN 3, kvI 0, kvN 1, kvN 2, none], []), ([], none), ([kvB 0 1], [], kvI 1, ([], [])), kvW86)
def kC956_0 : aC := (([kvB 0 7, kvB 0 4], [], 65, [kvR 102, kvN 3, kvI 0, kvN 1, kvN 2, kvI 1], []), ([], []), (4, [(-1, 1)]))
theorem ks956 : aseg kS krf kB [kE955] (ksp []) kE956 [kC956_0] 30000 (none) = true := asgqw (by decide +kernel)
theorem ks956_0 : aseg kS krf kB [kE955] (ksp []) kE956 [kC956_0] 30000 (some kC956_0) = true := asgqw (by decide +kernel)
theorem kok956 : aOK kS krf kB kE956 := aOK_of (kal1 kok955 kal0) (kcl1 ks956_0 kcl0) ks956
/-- ColdShodModel.goesBy(IIII)Z -/
def kE957 : aE := (190, 49, ([kvB 0 7], [], 0, [kvR 102, kvN 3, kvI 0, kvN 0, kvN 2, none], []), ([], none), ([kvB 0 1], [], kvI 1, ([], [])), kvW87)
def kC957_0 : aC := (([kvB 0 7, kvB 0 4], [], 65, [kvR 102, kvN 3, kvI 0, kvN 0, kvN 2, kvI 1], []), ([], []), (4, [(-1, 1)]))
theorem ks957 : aseg kS krf kB [kE956] (ksp []) kE957 [kC957_0] 30000 (none) = true := asgqw (by decide +kernel)
theorem ks957_0 : aseg kS krf kB [kE956] (ksp []) kE957 [kC957_0] 30000 (some kC957_0) = true := asgqw (by decide +kernel)
theorem kok957 : aOK kS krf kB kE957 := aOK_of (kal1 kok956 kal0) (kcl1 ks957_0 kcl0) ks957
/-- ColdShodModel.goesBy(IIII)Z -/
def kE958 : aE := (190, 47, ([kvB 0 7], [], 0, [kvR 102, kvN 3, kvI 0, kvN 1, kvN 1, none], []), ([], none), ([kvB 0 1], [], kvI 1, ([], [])), kvW78)
def kC958_0 : aC := (([kvB 0 7, kvB 0 1], [], 14, [kvR 102, kvN 3, kvI 0, kvN 1, kvN 1, kvI 1], []), ([], []), (1, [(-1, 1)]))
theorem ks958 : aseg kS krf kB [kE43, kE94, kE945, kE233] (ksp []) kE958 [kC958_0] 30000 (none) = true := asgqw (by decide +kernel)
theorem ks958_0 : aseg kS krf kB [kE43, kE94, kE945, kE233] (ksp []) kE958 [kC958_0] 30000 (some kC958_0) = true := asgqw (by decide +kernel)
theorem kok958 : aOK kS krf kB kE958 := aOK_of (kal1 kok43 (kal1 kok94 (kal1 kok945 (kal1 kok233 kal0)))) (kcl1 ks958_0 kcl0) ks958
/-- ColdShodModel.goesBy(IIII)Z -/
def kE959 : aE := (190, 48, ([kvB 0 7], [], 0, [kvR 102, kvN 3, kvI 0, kvN 0, kvN 1, none], []), ([], none), ([kvB 0 1], [], kvI 1, ([], [])), kvW88)
def kC959_0 : aC := (([kvB 0 7, kvB 0 4], [], 65, [kvR 102, kvN 3, kvI 0, kvN 0, kvN 1, kvI 1], []), ([], []), (4, [(-1, 1)]))
theorem ks959 : aseg kS krf kB [kE958] (ksp []) kE959 [kC959_0] 30000 (none) = true := asgqw (by decide +kernel)
theorem ks959_0 : aseg kS krf kB [kE958] (ksp []) kE959 [kC959_0] 30000 (some kC959_0) = true := asgqw (by decide +kernel)
theorem kok959 : aOK kS krf kB kE959 := aOK_of (kal1 kok958 kal0) (kcl1 ks959_0 kcl0) ks959
/-- ColdShodModel.goesBy(IIII)Z -/
def kE960 : aE := (190, 47, ([kvB 0 7], [], 0, [kvR 102, kvN 3, kvI 0, kvN 0, kvN 0, none], []), ([], none), ([kvB 0 1], [], kvI 1, ([], [])), kvW78)
def kC960_0 : aC := (([kvB 0 7], [], 14, [kvR 102, kvN 3, kvI 0, kvN 0, kvN 0, kvN 0], []), ([], []), (0, []))
theorem ks960 : aseg kS krf kB [kE43, kE945, kE233] (ksp []) kE960 [kC960_0] 30000 (none) = true := asgqw (by decide +kernel)
theorem ks960_0 : aseg kS krf kB [kE43, kE945, kE233] (ksp []) kE960 [kC960_0] 30000 (some kC960_0) = true := asgqw (by decide +kernel)
theorem kok960 : aOK kS krf kB kE960 := aOK_of (kal1 kok43 (kal1 kok945 (kal1 kok233 kal0))) (kcl1 ks960_0 kcl0) ks960
/-- ColdShodModel.goesJourney(I)V -/
def kE961 : aE := (188, 46, ([], [], 0, [kvR 102, kvN 2, none], []), ([], none), ([], [], none, ([], [])), kvW77)
def kC961_0 : aC := (([kvB 0 1, kvB 0 20], [(102, 25, .inl (1, .ofNat 0))], 12, [kvR 102, kvN 2, kvI 0], []), ([], []), (20, [(23, 0), (-1, 1)]))
theorem ks961 : aseg kS krf kB [kE240, kE89] (ksp []) kE961 [kC961_0] 30000 (none) = true := asgqw (by decide +kernel)
theorem ks961_0 : aseg kS krf kB [kE240, kE89] (ksp []) kE961 [kC961_0] 30000 (some kC961_0) = true := asgqw (by decide +kernel)
theorem kok961 : aOK kS krf kB kE961 := aOK_of (kal1 kok240 (kal1 kok89 kal0)) (kcl1 ks961_0 kcl0) ks961
/-- ColdShodModel.goesBy(IIII)Z -/
def kE962 : aE := (190, 47, ([kvB 0 7], [], 0, [kvR 102, kvN 2, kvI 0, kvN 4, kvN 4, none], []), ([], none), ([kvB 0 1], [], kvI 1, ([], [])), kvW78)
def kC962_0 : aC := (([kvB 0 7, kvB 0 4], [], 14, [kvR 102, kvN 2, kvI 0, kvN 4, kvN 4, kvI 1], []), ([], []), (4, [(-1, 1)]))
theorem ks962 : aseg kS krf kB [kE43, kE94, kE961, kE240] (ksp []) kE962 [kC962_0] 30000 (none) = true := asgqw (by decide +kernel)
theorem ks962_0 : aseg kS krf kB [kE43, kE94, kE961, kE240] (ksp []) kE962 [kC962_0] 30000 (some kC962_0) = true := asgqw (by decide +kernel)
theorem kok962 : aOK kS krf kB kE962 := aOK_of (kal1 kok43 (kal1 kok94 (kal1 kok961 (kal1 kok240 kal0)))) (kcl1 ks962_0 kcl0) ks962
/-- ColdShodModel.goesBy(IIII)Z -/
def kE963 : aE := (190, 48, ([kvB 0 7], [], 0, [kvR 102, kvN 2, kvI 0, kvN 3, kvN 4, none], []), ([], none), ([kvB 0 1], [], kvI 1, ([], [])), kvW79)
def kC963_0 : aC := (([kvB 0 7, kvB 0 4], [], 65, [kvR 102, kvN 2, kvI 0, kvN 3, kvN 4, kvI 1], []), ([], []), (4, [(-1, 1)]))
theorem ks963 : aseg kS krf kB [kE962] (ksp []) kE963 [kC963_0] 30000 (none) = true := asgqw (by decide +kernel)
theorem ks963_0 : aseg kS krf kB [kE962] (ksp []) kE963 [kC963_0] 30000 (some kC963_0) = true := asgqw (by decide +kernel)
theorem kok963 : aOK kS krf kB kE963 := aOK_of (kal1 kok962 kal0) (kcl1 ks963_0 kcl0) ks963
/-- ColdShodModel.goesBy(IIII)Z -/
def kE964 : aE := (190, 49, ([kvB 0 7], [], 0, [kvR 102, kvN 2, kvI 0, kvN 2, kvN 4, none], []), ([], none), ([kvB 0 1], [], kvI 1, ([], [])), kvW80)
def kC964_0 : aC := (([kvB 0 7, kvB 0 4], [], 65, [kvR 102, kvN 2, kvI 0, kvN 2, kvN 4, kvI 1], []), ([], []), (4, [(-1, 1)]))
theorem ks964 : aseg kS krf kB [kE963] (ksp []) kE964 [kC964_0] 30000 (none) = true := asgqw (by decide +kernel)
theorem ks964_0 : aseg kS krf kB [kE963] (ksp []) kE964 [kC964_0] 30000 (some kC964_0) = true := asgqw (by decide +kernel)
theorem kok964 : aOK kS krf kB kE964 := aOK_of (kal1 kok963 kal0) (kcl1 ks964_0 kcl0) ks964
/-- ColdShodModel.goesBy(IIII)Z -/
def kE965 : aE := (190, 50, ([kvB 0 7], [], 0, [kvR 102, kvN 2, kvI 0, kvN 1, kvN 4, none], []), ([], none), ([kvB 0 1], [], kvI 1, ([], [])), kvW81)
def kC965_0 : aC := (([kvB 0 7, kvB 0 4], [], 65, [kvR 102, kvN 2, kvI 0, kvN 1, kvN 4, kvI 1], []), ([], []), (4, [(-1, 1)]))
theorem ks965 : aseg kS krf kB [kE964] (ksp []) kE965 [kC965_0] 30000 (none) = true := asgqw (by decide +kernel)
theorem ks965_0 : aseg kS krf kB [kE964] (ksp []) kE965 [kC965_0] 30000 (some kC965_0) = true := asgqw (by decide +kernel)
theorem kok965 : aOK kS krf kB kE965 := aOK_of (kal1 kok964 kal0) (kcl1 ks965_0 kcl0) ks965
/-- ColdShodModel.goesBy(IIII)Z -/
def kE966 : aE := (190, 51, ([kvB 0 7], [], 0, [kvR 102, kvN 2, kvI 0, kvN 0, kvN 4, none], []), ([], none), ([kvB 0 1], [], kvI 1, ([], [])), kvW82)
def kC966_0 : aC := (([kvB 0 7, kvB 0 4], [], 65, [kvR 102, kvN 2, kvI 0, kvN 0, kvN 4, kvI 1], []), ([], []), (4, [(-1, 1)]))
theorem ks966 : aseg kS krf kB [kE965] (ksp []) kE966 [kC966_0] 30000 (none) = true := asgqw (by decide +kernel)
theorem ks966_0 : aseg kS krf kB [kE965] (ksp []) kE966 [kC966_0] 30000 (some kC966_0) = true := asgqw (by decide +kernel)
theorem kok966 : aOK kS krf kB kE966 := aOK_of (kal1 kok965 kal0) (kcl1 ks966_0 kcl0) ks966
/-- ColdShodModel.goesBy(IIII)Z -/
def kE967 : aE := (190, 47, ([kvB 0 7], [], 0, [kvR 102, kvN 2, kvI 0, kvN 3, kvN 3, none], []), ([], none), ([kvB 0 1], [], kvI 1, ([], [])), kvW78)
def kC967_0 : aC := (([kvB 0 7, kvB 0 3], [], 14, [kvR 102, kvN 2, kvI 0, kvN 3, kvN 3, kvI 1], []), ([], []), (3, [(-1, 1)]))
theorem ks967 : aseg kS krf kB [kE43, kE94, kE961, kE240] (ksp []) kE967 [kC967_0] 30000 (none) = true := asgqw (by decide +kernel)
theorem ks967_0 : aseg kS krf kB [kE43, kE94, kE961, kE240] (ksp []) kE967 [kC967_0] 30000 (some kC967_0) = true := asgqw (by decide +kernel)
theorem kok967 : aOK kS krf kB kE967 := aOK_of (kal1 kok43 (kal1 kok94 (kal1 kok961 (kal1 kok240 kal0)))) (kcl1 ks967_0 kcl0) ks967
/-- ColdShodModel.goesBy(IIII)Z -/
def kE968 : aE := (190, 48, ([kvB 0 7], [], 0, [kvR 102, kvN 2, kvI 0, kvN 2, kvN 3, none], []), ([], none), ([kvB 0 1], [], kvI 1, ([], [])), kvW83)
def kC968_0 : aC := (([kvB 0 7, kvB 0 4], [], 65, [kvR 102, kvN 2, kvI 0, kvN 2, kvN 3, kvI 1], []), ([], []), (4, [(-1, 1)]))
theorem ks968 : aseg kS krf kB [kE967] (ksp []) kE968 [kC968_0] 30000 (none) = true := asgqw (by decide +kernel)
theorem ks968_0 : aseg kS krf kB [kE967] (ksp []) kE968 [kC968_0] 30000 (some kC968_0) = true := asgqw (by decide +kernel)
theorem kok968 : aOK kS krf kB kE968 := aOK_of (kal1 kok967 kal0) (kcl1 ks968_0 kcl0) ks968
/-- ColdShodModel.goesBy(IIII)Z -/
def kE969 : aE := (190, 49, ([kvB 0 7], [], 0, [kvR 102, kvN 2, kvI 0, kvN 1, kvN 3, none], []), ([], none), ([kvB 0 1], [], kvI 1, ([], [])), kvW84)
def kC969_0 : aC := (([kvB 0 7, kvB 0 4], [], 65, [kvR 102, kvN 2, kvI 0, kvN 1, kvN 3, kvI 1], []), ([], []), (4, [(-1, 1)]))
theorem ks969 : aseg kS krf kB [kE968] (ksp []) kE969 [kC969_0] 30000 (none) = true := asgqw (by decide +kernel)
theorem ks969_0 : aseg kS krf kB [kE968] (ksp []) kE969 [kC969_0] 30000 (some kC969_0) = true := asgqw (by decide +kernel)
theorem kok969 : aOK kS krf kB kE969 := aOK_of (kal1 kok968 kal0) (kcl1 ks969_0 kcl0) ks969
/-- ColdShodModel.goesBy(IIII)Z -/
def kE970 : aE := (190, 50, ([kvB 0 7], [], 0, [kvR 102, kvN 2, kvI 0, kvN 0, kvN 3, none], []), ([], none), ([kvB 0 1], [], kvI 1, ([], [])), kvW85)
def kC970_0 : aC := (([kvB 0 7, kvB 0 4], [], 65, [kvR 102, kvN 2, kvI 0, kvN 0, kvN 3, kvI 1], []), ([], []), (4, [(-1, 1)]))
theorem ks970 : aseg kS krf kB [kE969] (ksp []) kE970 [kC970_0] 30000 (none) = true := asgqw (by decide +kernel)
theorem ks970_0 : aseg kS krf kB [kE969] (ksp []) kE970 [kC970_0] 30000 (some kC970_0) = true := asgqw (by decide +kernel)
theorem kok970 : aOK kS krf kB kE970 := aOK_of (kal1 kok969 kal0) (kcl1 ks970_0 kcl0) ks970
/-- ColdShodModel.goesBy(IIII)Z -/
def kE971 : aE := (190, 47, ([kvB 0 7], [], 0, [kvR 102, kvN 2, kvI 0, kvN 2, kvN 2, none], []), ([], none), ([kvB 0 1], [], kvI 1, ([], [])), kvW78)
def kC971_0 : aC := (([kvB 0 7, kvB 0 2], [], 14, [kvR 102, kvN 2, kvI 0, kvN 2, kvN 2, kvI 1], []), ([], []), (2, [(-1, 1)]))
theorem ks971 : aseg kS krf kB [kE43, kE94, kE961, kE240] (ksp []) kE971 [kC971_0] 30000 (none) = true := asgqw (by decide +kernel)
theorem ks971_0 : aseg kS krf kB [kE43, kE94, kE961, kE240] (ksp []) kE971 [kC971_0] 30000 (some kC971_0) = true := asgqw (by decide +kernel)
theorem kok971 : aOK kS krf kB kE971 := aOK_of (kal1 kok43 (kal1 kok94 (kal1 kok961 (kal1 kok240 kal0)))) (kcl1 ks971_0 kcl0) ks971
/-- ColdShodModel.goesBy(IIII)Z -/
def kE972 : aE := (190, 48, ([kvB 0 7], [], 0, [kvR 102, kvN 2, kvI 0, kvN 1, kvN 2, none], []), ([], none), ([kvB 0 1], [], kvI 1, ([], [])), kvW86)
def kC972_0 : aC := (([kvB 0 7, kvB 0 4], [], 65, [kvR 102, kvN 2, kvI 0, kvN 1, kvN 2, kvI 1], []), ([], []), (4, [(-1, 1)]))
theorem ks972 : aseg kS krf kB [kE971] (ksp []) kE972 [kC972_0] 30000 (none) = true := asgqw (by decide +kernel)
theorem ks972_0 : aseg kS krf kB [kE971] (ksp []) kE972 [kC972_0] 30000 (some kC972_0) = true := asgqw (by decide +kernel)
theorem kok972 : aOK kS krf kB kE972 := aOK_of (kal1 kok971 kal0) (kcl1 ks972_0 kcl0) ks972
/-- ColdShodModel.goesBy(IIII)Z -/
def kE973 : aE := (190, 49, ([kvB 0 7], [], 0, [kvR 102, kvN 2, kvI 0, kvN 0, kvN 2, none], []), ([], none), ([kvB 0 1], [], kvI 1, ([], [])), kvW87)
def kC973_0 : aC := (([kvB 0 7, kvB 0 4], [], 65, [kvR 102, kvN 2, kvI 0, kvN 0, kvN 2, kvI 1], []), ([], []), (4, [(-1, 1)]))
theorem ks973 : aseg kS krf kB [kE972] (ksp []) kE973 [kC973_0] 30000 (none) = true := asgqw (by decide +kernel)
theorem ks973_0 : aseg kS krf kB [kE972] (ksp []) kE973 [kC973_0] 30000 (some kC973_0) = true := asgqw (by decide +kernel)
theorem kok973 : aOK kS krf kB kE973 := aOK_of (kal1 kok972 kal0) (kcl1 ks973_0 kcl0) ks973
/-- ColdShodModel.goesBy(IIII)Z -/
def kE974 : aE := (190, 47, ([kvB 0 7], [], 0, [kvR 102, kvN 2, kvI 0, kvN 1, kvN 1, none], []), ([], none), ([kvB 0 1], [], kvI 1, ([], [])), kvW78)
def kC974_0 : aC := (([kvB 0 7, kvB 0 1], [], 14, [kvR 102, kvN 2, kvI 0, kvN 1, kvN 1, kvI 1], []), ([], []), (1, [(-1, 1)]))
theorem ks974 : aseg kS krf kB [kE43, kE94, kE961, kE240] (ksp []) kE974 [kC974_0] 30000 (none) = true := asgqw (by decide +kernel)
theorem ks974_0 : aseg kS krf kB [kE43, kE94, kE961, kE240] (ksp []) kE974 [kC974_0] 30000 (some kC974_0) = true := asgqw (by decide +kernel)
theorem kok974 : aOK kS krf kB kE974 := aOK_of (kal1 kok43 (kal1 kok94 (kal1 kok961 (kal1 kok240 kal0)))) (kcl1 ks974_0 kcl0) ks974
/-- ColdShodModel.goesBy(IIII)Z -/
def kE975 : aE := (190, 48, ([kvB 0 7], [], 0, [kvR 102, kvN 2, kvI 0, kvN 0, kvN 1, none], []), ([], none), ([kvB 0 1], [], kvI 1, ([], [])), kvW88)
def kC975_0 : aC := (([kvB 0 7, kvB 0 4], [], 65, [kvR 102, kvN 2, kvI 0, kvN 0, kvN 1, kvI 1], []), ([], []), (4, [(-1, 1)]))
theorem ks975 : aseg kS krf kB [kE974] (ksp []) kE975 [kC975_0] 30000 (none) = true := asgqw (by decide +kernel)
theorem ks975_0 : aseg kS krf kB [kE974] (ksp []) kE975 [kC975_0] 30000 (some kC975_0) = true := asgqw (by decide +kernel)
theorem kok975 : aOK kS krf kB kE975 := aOK_of (kal1 kok974 kal0) (kcl1 ks975_0 kcl0) ks975
/-- ColdShodModel.goesBy(IIII)Z -/
def kE976 : aE := (190, 47, ([kvB 0 7], [], 0, [kvR 102, kvN 2, kvI 0, kvN 0, kvN 0, none], []), ([], none), ([kvB 0 1], [], kvI 1, ([], [])), kvW78)
def kC976_0 : aC := (([kvB 0 7], [], 14, [kvR 102, kvN 2, kvI 0, kvN 0, kvN 0, kvN 0], []), ([], []), (0, []))
theorem ks976 : aseg kS krf kB [kE43, kE961, kE240] (ksp []) kE976 [kC976_0] 30000 (none) = true := asgqw (by decide +kernel)
theorem ks976_0 : aseg kS krf kB [kE43, kE961, kE240] (ksp []) kE976 [kC976_0] 30000 (some kC976_0) = true := asgqw (by decide +kernel)
theorem kok976 : aOK kS krf kB kE976 := aOK_of (kal1 kok43 (kal1 kok961 (kal1 kok240 kal0))) (kcl1 ks976_0 kcl0) ks976
/-- ColdShodModel.goesJourney(I)V -/
def kE977 : aE := (188, 46, ([], [], 0, [kvR 102, kvN 1, none], []), ([], none), ([], [], none, ([], [])), kvW77)
def kC977_0 : aC := (([kvB 0 1, kvB 0 20], [(102, 25, .inl (1, .ofNat 0))], 12, [kvR 102, kvN 1, kvI 0], []), ([], []), (20, [(23, 0), (-1, 1)]))
theorem ks977 : aseg kS krf kB [kE247, kE89] (ksp []) kE977 [kC977_0] 30000 (none) = true := asgqw (by decide +kernel)
theorem ks977_0 : aseg kS krf kB [kE247, kE89] (ksp []) kE977 [kC977_0] 30000 (some kC977_0) = true := asgqw (by decide +kernel)
theorem kok977 : aOK kS krf kB kE977 := aOK_of (kal1 kok247 (kal1 kok89 kal0)) (kcl1 ks977_0 kcl0) ks977
/-- ColdShodModel.goesBy(IIII)Z -/
def kE978 : aE := (190, 47, ([kvB 0 7], [], 0, [kvR 102, kvN 1, kvI 0, kvN 4, kvN 4, none], []), ([], none), ([kvB 0 1], [], kvI 1, ([], [])), kvW78)
def kC978_0 : aC := (([kvB 0 7, kvB 0 4], [], 14, [kvR 102, kvN 1, kvI 0, kvN 4, kvN 4, kvI 1], []), ([], []), (4, [(-1, 1)]))
theorem ks978 : aseg kS krf kB [kE43, kE94, kE977, kE247] (ksp []) kE978 [kC978_0] 30000 (none) = true := asgqw (by decide +kernel)
theorem ks978_0 : aseg kS krf kB [kE43, kE94, kE977, kE247] (ksp []) kE978 [kC978_0] 30000 (some kC978_0) = true := asgqw (by decide +kernel)
theorem kok978 : aOK kS krf kB kE978 := aOK_of (kal1 kok43 (kal1 kok94 (kal1 kok977 (kal1 kok247 kal0)))) (kcl1 ks978_0 kcl0) ks978
/-- ColdShodModel.goesBy(IIII)Z -/
def kE979 : aE := (190, 48, ([kvB 0 7], [], 0, [kvR 102, kvN 1, kvI 0, kvN 3, kvN 4, none], []), ([], none), ([kvB 0 1], [], kvI 1, ([], [])), kvW79)
def kC979_0 : aC := (([kvB 0 7, kvB 0 4], [], 65, [kvR 102, kvN 1, kvI 0, kvN 3, kvN 4, kvI 1], []), ([], []), (4, [(-1, 1)]))
theorem ks979 : aseg kS krf kB [kE978] (ksp []) kE979 [kC979_0] 30000 (none) = true := asgqw (by decide +kernel)
theorem ks979_0 : aseg kS krf kB [kE978] (ksp []) kE979 [kC979_0] 30000 (some kC979_0) = true := asgqw (by decide +kernel)
theorem kok979 : aOK kS krf kB kE979 := aOK_of (kal1 kok978 kal0) (kcl1 ks979_0 kcl0) ks979
/-- ColdShodModel.goesBy(IIII)Z -/
def kE980 : aE := (190, 49, ([kvB 0 7], [], 0, [kvR 102, kvN 1, kvI 0, kvN 2, kvN 4, none], []), ([], none), ([kvB 0 1], [], kvI 1, ([], [])), kvW80)
def kC980_0 : aC := (([kvB 0 7, kvB 0 4], [], 65, [kvR 102, kvN 1, kvI 0, kvN 2, kvN 4, kvI 1], []), ([], []), (4, [(-1, 1)]))
theorem ks980 : aseg kS krf kB [kE979] (ksp []) kE980 [kC980_0] 30000 (none) = true := asgqw (by decide +kernel)
theorem ks980_0 : aseg kS krf kB [kE979] (ksp []) kE980 [kC980_0] 30000 (some kC980_0) = true := asgqw (by decide +kernel)
theorem kok980 : aOK kS krf kB kE980 := aOK_of (kal1 kok979 kal0) (kcl1 ks980_0 kcl0) ks980
/-- ColdShodModel.goesBy(IIII)Z -/
def kE981 : aE := (190, 50, ([kvB 0 7], [], 0, [kvR 102, kvN 1, kvI 0, kvN 1, kvN 4, none], []), ([], none), ([kvB 0 1], [], kvI 1, ([], [])), kvW81)
def kC981_0 : aC := (([kvB 0 7, kvB 0 4], [], 65, [kvR 102, kvN 1, kvI 0, kvN 1, kvN 4, kvI 1], []), ([], []), (4, [(-1, 1)]))
theorem ks981 : aseg kS krf kB [kE980] (ksp []) kE981 [kC981_0] 30000 (none) = true := asgqw (by decide +kernel)
theorem ks981_0 : aseg kS krf kB [kE980] (ksp []) kE981 [kC981_0] 30000 (some kC981_0) = true := asgqw (by decide +kernel)
theorem kok981 : aOK kS krf kB kE981 := aOK_of (kal1 kok980 kal0) (kcl1 ks981_0 kcl0) ks981
/-- ColdShodModel.goesBy(IIII)Z -/
def kE982 : aE := (190, 51, ([kvB 0 7], [], 0, [kvR 102, kvN 1, kvI 0, kvN 0, kvN 4, none], []), ([], none), ([kvB 0 1], [], kvI 1, ([], [])), kvW82)
def kC982_0 : aC := (([kvB 0 7, kvB 0 4], [], 65, [kvR 102, kvN 1, kvI 0, kvN 0, kvN 4, kvI 1], []), ([], []), (4, [(-1, 1)]))
theorem ks982 : aseg kS krf kB [kE981] (ksp []) kE982 [kC982_0] 30000 (none) = true := asgqw (by decide +kernel)
theorem ks982_0 : aseg kS krf kB [kE981] (ksp []) kE982 [kC982_0] 30000 (some kC982_0) = true := asgqw (by decide +kernel)
theorem kok982 : aOK kS krf kB kE982 := aOK_of (kal1 kok981 kal0) (kcl1 ks982_0 kcl0) ks982
/-- ColdShodModel.goesBy(IIII)Z -/
def kE983 : aE := (190, 47, ([kvB 0 7], [], 0, [kvR 102, kvN 1, kvI 0, kvN 3, kvN 3, none], []), ([], none), ([kvB 0 1], [], kvI 1, ([], [])), kvW78)
def kC983_0 : aC := (([kvB 0 7, kvB 0 3], [], 14, [kvR 102, kvN 1, kvI 0, kvN 3, kvN 3, kvI 1], []), ([], []), (3, [(-1, 1)]))
theorem ks983 : aseg kS krf kB [kE43, kE94, kE977, kE247] (ksp []) kE983 [kC983_0] 30000 (none) = true := asgqw (by decide +kernel)
theorem ks983_0 : aseg kS krf kB [kE43, kE94, kE977, kE247] (ksp []) kE983 [kC983_0] 30000 (some kC983_0) = true := asgqw (by decide +kernel)
theorem kok983 : aOK kS krf kB kE983 := aOK_of (kal1 kok43 (kal1 kok94 (kal1 kok977 (kal1 kok247 kal0)))) (kcl1 ks983_0 kcl0) ks983
/-- ColdShodModel.goesBy(IIII)Z -/
def kE984 : aE := (190, 48, ([kvB 0 7], [], 0, [kvR 102, kvN 1, kvI 0, kvN 2, kvN 3, none], []), ([], none), ([kvB 0 1], [], kvI 1, ([], [])), kvW83)
def kC984_0 : aC := (([kvB 0 7, kvB 0 4], [], 65, [kvR 102, kvN 1, kvI 0, kvN 2, kvN 3, kvI 1], []), ([], []), (4, [(-1, 1)]))
theorem ks984 : aseg kS krf kB [kE983] (ksp []) kE984 [kC984_0] 30000 (none) = true := asgqw (by decide +kernel)
theorem ks984_0 : aseg kS krf kB [kE983] (ksp []) kE984 [kC984_0] 30000 (some kC984_0) = true := asgqw (by decide +kernel)
theorem kok984 : aOK kS krf kB kE984 := aOK_of (kal1 kok983 kal0) (kcl1 ks984_0 kcl0) ks984
/-- ColdShodModel.goesBy(IIII)Z -/
def kE985 : aE := (190, 49, ([kvB 0 7], [], 0, [kvR 102, kvN 1, kvI 0, kvN 1, kvN 3, none], []), ([], none), ([kvB 0 1], [], kvI 1, ([], [])), kvW84)
def kC985_0 : aC := (([kvB 0 7, kvB 0 4], [], 65, [kvR 102, kvN 1, kvI 0, kvN 1, kvN 3, kvI 1], []), ([], []), (4, [(-1, 1)]))
theorem ks985 : aseg kS krf kB [kE984] (ksp []) kE985 [kC985_0] 30000 (none) = true := asgqw (by decide +kernel)
theorem ks985_0 : aseg kS krf kB [kE984] (ksp []) kE985 [kC985_0] 30000 (some kC985_0) = true := asgqw (by decide +kernel)
theorem kok985 : aOK kS krf kB kE985 := aOK_of (kal1 kok984 kal0) (kcl1 ks985_0 kcl0) ks985
/-- ColdShodModel.goesBy(IIII)Z -/
def kE986 : aE := (190, 50, ([kvB 0 7], [], 0, [kvR 102, kvN 1, kvI 0, kvN 0, kvN 3, none], []), ([], none), ([kvB 0 1], [], kvI 1, ([], [])), kvW85)
def kC986_0 : aC := (([kvB 0 7, kvB 0 4], [], 65, [kvR 102, kvN 1, kvI 0, kvN 0, kvN 3, kvI 1], []), ([], []), (4, [(-1, 1)]))
theorem ks986 : aseg kS krf kB [kE985] (ksp []) kE986 [kC986_0] 30000 (none) = true := asgqw (by decide +kernel)
theorem ks986_0 : aseg kS krf kB [kE985] (ksp []) kE986 [kC986_0] 30000 (some kC986_0) = true := asgqw (by decide +kernel)
theorem kok986 : aOK kS krf kB kE986 := aOK_of (kal1 kok985 kal0) (kcl1 ks986_0 kcl0) ks986
/-- ColdShodModel.goesBy(IIII)Z -/
def kE987 : aE := (190, 47, ([kvB 0 7], [], 0, [kvR 102, kvN 1, kvI 0, kvN 2, kvN 2, none], []), ([], none), ([kvB 0 1], [], kvI 1, ([], [])), kvW78)
def kC987_0 : aC := (([kvB 0 7, kvB 0 2], [], 14, [kvR 102, kvN 1, kvI 0, kvN 2, kvN 2, kvI 1], []), ([], []), (2, [(-1, 1)]))
theorem ks987 : aseg kS krf kB [kE43, kE94, kE977, kE247] (ksp []) kE987 [kC987_0] 30000 (none) = true := asgqw (by decide +kernel)
theorem ks987_0 : aseg kS krf kB [kE43, kE94, kE977, kE247] (ksp []) kE987 [kC987_0] 30000 (some kC987_0) = true := asgqw (by decide +kernel)
theorem kok987 : aOK kS krf kB kE987 := aOK_of (kal1 kok43 (kal1 kok94 (kal1 kok977 (kal1 kok247 kal0)))) (kcl1 ks987_0 kcl0) ks987
/-- ColdShodModel.goesBy(IIII)Z -/
def kE988 : aE := (190, 48, ([kvB 0 7], [], 0, [kvR 102, kvN 1, kvI 0, kvN 1, kvN 2, none], []), ([], none), ([kvB 0 1], [], kvI 1, ([], [])), kvW86)
def kC988_0 : aC := (([kvB 0 7, kvB 0 4], [], 65, [kvR 102, kvN 1, kvI 0, kvN 1, kvN 2, kvI 1], []), ([], []), (4, [(-1, 1)]))
theorem ks988 : aseg kS krf kB [kE987] (ksp []) kE988 [kC988_0] 30000 (none) = true := asgqw (by decide +kernel)
theorem ks988_0 : aseg kS krf kB [kE987] (ksp []) kE988 [kC988_0] 30000 (some kC988_0) = true := asgqw (by decide +kernel)
theorem kok988 : aOK kS krf kB kE988 := aOK_of (kal1 kok987 kal0) (kcl1 ks988_0 kcl0) ks988
/-- ColdShodModel.goesBy(IIII)Z -/
def kE989 : aE := (190, 49, ([kvB 0 7], [], 0, [kvR 102, kvN 1, kvI 0, kvN 0, kvN 2, none], []), ([], none), ([kvB 0 1], [], kvI 1, ([], [])), kvW87)
def kC989_0 : aC := (([kvB 0 7, kvB 0 4], [], 65, [kvR 102, kvN 1, kvI 0, kvN 0, kvN 2, kvI 1], []), ([], []), (4, [(-1, 1)]))
theorem ks989 : aseg kS krf kB [kE988] (ksp []) kE989 [kC989_0] 30000 (none) = true := asgqw (by decide +kernel)
theorem ks989_0 : aseg kS krf kB [kE988] (ksp []) kE989 [kC989_0] 30000 (some kC989_0) = true := asgqw (by decide +kernel)
theorem kok989 : aOK kS krf kB kE989 := aOK_of (kal1 kok988 kal0) (kcl1 ks989_0 kcl0) ks989
/-- ColdShodModel.goesBy(IIII)Z -/
def kE990 : aE := (190, 47, ([kvB 0 7], [], 0, [kvR 102, kvN 1, kvI 0, kvN 1, kvN 1, none], []), ([], none), ([kvB 0 1], [], kvI 1, ([], [])), kvW78)
def kC990_0 : aC := (([kvB 0 7, kvB 0 1], [], 14, [kvR 102, kvN 1, kvI 0, kvN 1, kvN 1, kvI 1], []), ([], []), (1, [(-1, 1)]))
theorem ks990 : aseg kS krf kB [kE43, kE94, kE977, kE247] (ksp []) kE990 [kC990_0] 30000 (none) = true := asgqw (by decide +kernel)
theorem ks990_0 : aseg kS krf kB [kE43, kE94, kE977, kE247] (ksp []) kE990 [kC990_0] 30000 (some kC990_0) = true := asgqw (by decide +kernel)
theorem kok990 : aOK kS krf kB kE990 := aOK_of (kal1 kok43 (kal1 kok94 (kal1 kok977 (kal1 kok247 kal0)))) (kcl1 ks990_0 kcl0) ks990
/-- ColdShodModel.goesBy(IIII)Z -/
def kE991 : aE := (190, 48, ([kvB 0 7], [], 0, [kvR 102, kvN 1, kvI 0, kvN 0, kvN 1, none], []), ([], none), ([kvB 0 1], [], kvI 1, ([], [])), kvW88)
def kC991_0 : aC := (([kvB 0 7, kvB 0 4], [], 65, [kvR 102, kvN 1, kvI 0, kvN 0, kvN 1, kvI 1], []), ([], []), (4, [(-1, 1)]))
theorem ks991 : aseg kS krf kB [kE990] (ksp []) kE991 [kC991_0] 30000 (none) = true := asgqw (by decide +kernel)
theorem ks991_0 : aseg kS krf kB [kE990] (ksp []) kE991 [kC991_0] 30000 (some kC991_0) = true := asgqw (by decide +kernel)
theorem kok991 : aOK kS krf kB kE991 := aOK_of (kal1 kok990 kal0) (kcl1 ks991_0 kcl0) ks991
/-- ColdShodModel.goesBy(IIII)Z -/
def kE992 : aE := (190, 47, ([kvB 0 7], [], 0, [kvR 102, kvN 1, kvI 0, kvN 0, kvN 0, none], []), ([], none), ([kvB 0 1], [], kvI 1, ([], [])), kvW78)
def kC992_0 : aC := (([kvB 0 7], [], 14, [kvR 102, kvN 1, kvI 0, kvN 0, kvN 0, kvN 0], []), ([], []), (0, []))
theorem ks992 : aseg kS krf kB [kE43, kE977, kE247] (ksp []) kE992 [kC992_0] 30000 (none) = true := asgqw (by decide +kernel)
theorem ks992_0 : aseg kS krf kB [kE43, kE977, kE247] (ksp []) kE992 [kC992_0] 30000 (some kC992_0) = true := asgqw (by decide +kernel)
theorem kok992 : aOK kS krf kB kE992 := aOK_of (kal1 kok43 (kal1 kok977 (kal1 kok247 kal0))) (kcl1 ks992_0 kcl0) ks992
/-- ColdShodModel.goesJourney(I)V -/
def kE993 : aE := (188, 46, ([], [], 0, [kvR 102, kvN 0, none], []), ([], none), ([], [], none, ([], [])), kvW77)
def kC993_0 : aC := (([kvB 0 1, kvB 0 20], [(102, 25, .inl (1, .ofNat 0))], 12, [kvR 102, kvN 0, kvI 0], []), ([], []), (20, [(23, 0), (-1, 1)]))
theorem ks993 : aseg kS krf kB [kE254, kE89] (ksp []) kE993 [kC993_0] 30000 (none) = true := asgqw (by decide +kernel)
theorem ks993_0 : aseg kS krf kB [kE254, kE89] (ksp []) kE993 [kC993_0] 30000 (some kC993_0) = true := asgqw (by decide +kernel)
theorem kok993 : aOK kS krf kB kE993 := aOK_of (kal1 kok254 (kal1 kok89 kal0)) (kcl1 ks993_0 kcl0) ks993
/-- ColdShodModel.goesBy(IIII)Z -/
def kE994 : aE := (190, 47, ([kvB 0 7], [], 0, [kvR 102, kvN 0, kvI 0, kvN 4, kvN 4, none], []), ([], none), ([kvB 0 1], [], kvI 1, ([], [])), kvW78)
def kC994_0 : aC := (([kvB 0 7, kvB 0 4], [], 14, [kvR 102, kvN 0, kvI 0, kvN 4, kvN 4, kvI 1], []), ([], []), (4, [(-1, 1)]))
theorem ks994 : aseg kS krf kB [kE43, kE94, kE993, kE254] (ksp []) kE994 [kC994_0] 30000 (none) = true := asgqw (by decide +kernel)
theorem ks994_0 : aseg kS krf kB [kE43, kE94, kE993, kE254] (ksp []) kE994 [kC994_0] 30000 (some kC994_0) = true := asgqw (by decide +kernel)
theorem kok994 : aOK kS krf kB kE994 := aOK_of (kal1 kok43 (kal1 kok94 (kal1 kok993 (kal1 kok254 kal0)))) (kcl1 ks994_0 kcl0) ks994
/-- ColdShodModel.goesBy(IIII)Z -/
def kE995 : aE := (190, 48, ([kvB 0 7], [], 0, [kvR 102, kvN 0, kvI 0, kvN 3, kvN 4, none], []), ([], none), ([kvB 0 1], [], kvI 1, ([], [])), kvW79)
def kC995_0 : aC := (([kvB 0 7, kvB 0 4], [], 65, [kvR 102, kvN 0, kvI 0, kvN 3, kvN 4, kvI 1], []), ([], []), (4, [(-1, 1)]))
theorem ks995 : aseg kS krf kB [kE994] (ksp []) kE995 [kC995_0] 30000 (none) = true := asgqw (by decide +kernel)
theorem ks995_0 : aseg kS krf kB [kE994] (ksp []) kE995 [kC995_0] 30000 (some kC995_0) = true := asgqw (by decide +kernel)
theorem kok995 : aOK kS krf kB kE995 := aOK_of (kal1 kok994 kal0) (kcl1 ks995_0 kcl0) ks995
/-- ColdShodModel.goesBy(IIII)Z -/
def kE996 : aE := (190, 49, ([kvB 0 7], [], 0, [kvR 102, kvN 0, kvI 0, kvN 2, kvN 4, none], []), ([], none), ([kvB 0 1], [], kvI 1, ([], [])), kvW80)
def kC996_0 : aC := (([kvB 0 7, kvB 0 4], [], 65, [kvR 102, kvN 0, kvI 0, kvN 2, kvN 4, kvI 1], []), ([], []), (4, [(-1, 1)]))
theorem ks996 : aseg kS krf kB [kE995] (ksp []) kE996 [kC996_0] 30000 (none) = true := asgqw (by decide +kernel)
theorem ks996_0 : aseg kS krf kB [kE995] (ksp []) kE996 [kC996_0] 30000 (some kC996_0) = true := asgqw (by decide +kernel)
theorem kok996 : aOK kS krf kB kE996 := aOK_of (kal1 kok995 kal0) (kcl1 ks996_0 kcl0) ks996
/-- ColdShodModel.goesBy(IIII)Z -/
def kE997 : aE := (190, 50, ([kvB 0 7], [], 0, [kvR 102, kvN 0, kvI 0, kvN 1, kvN 4, none], []), ([], none), ([kvB 0 1], [], kvI 1, ([], [])), kvW81)
def kC997_0 : aC := (([kvB 0 7, kvB 0 4], [], 65, [kvR 102, kvN 0, kvI 0, kvN 1, kvN 4, kvI 1], []), ([], []), (4, [(-1, 1)]))
theorem ks997 : aseg kS krf kB [kE996] (ksp []) kE997 [kC997_0] 30000 (none) = true := asgqw (by decide +kernel)
theorem ks997_0 : aseg kS krf kB [kE996] (ksp []) kE997 [kC997_0] 30000 (some kC997_0) = true := asgqw (by decide +kernel)
theorem kok997 : aOK kS krf kB kE997 := aOK_of (kal1 kok996 kal0) (kcl1 ks997_0 kcl0) ks997
/-- ColdShodModel.goesBy(IIII)Z -/
def kE998 : aE := (190, 51, ([kvB 0 7], [], 0, [kvR 102, kvN 0, kvI 0, kvN 0, kvN 4, none], []), ([], none), ([kvB 0 1], [], kvI 1, ([], [])), kvW82)
def kC998_0 : aC := (([kvB 0 7, kvB 0 4], [], 65, [kvR 102, kvN 0, kvI 0, kvN 0, kvN 4, kvI 1], []), ([], []), (4, [(-1, 1)]))
theorem ks998 : aseg kS krf kB [kE997] (ksp []) kE998 [kC998_0] 30000 (none) = true := asgqw (by decide +kernel)
theorem ks998_0 : aseg kS krf kB [kE997] (ksp []) kE998 [kC998_0] 30000 (some kC998_0) = true := asgqw (by decide +kernel)
theorem kok998 : aOK kS krf kB kE998 := aOK_of (kal1 kok997 kal0) (kcl1 ks998_0 kcl0) ks998
/-- ColdShodModel.goesBy(IIII)Z -/
def kE999 : aE := (190, 47, ([kvB 0 7], [], 0, [kvR 102, kvN 0, kvI 0, kvN 3, kvN 3, none], []), ([], none), ([kvB 0 1], [], kvI 1, ([], [])), kvW78)
def kC999_0 : aC := (([kvB 0 7, kvB 0 3], [], 14, [kvR 102, kvN 0, kvI 0, kvN 3, kvN 3, kvI 1], []), ([], []), (3, [(-1, 1)]))
theorem ks999 : aseg kS krf kB [kE43, kE94, kE993, kE254] (ksp []) kE999 [kC999_0] 30000 (none) = true := asgqw (by decide +kernel)
theorem ks999_0 : aseg kS krf kB [kE43, kE94, kE993, kE254] (ksp []) kE999 [kC999_0] 30000 (some kC999_0) = true := asgqw (by decide +kernel)
theorem kok999 : aOK kS krf kB kE999 := aOK_of (kal1 kok43 (kal1 kok94 (kal1 kok993 (kal1 kok254 kal0)))) (kcl1 ks999_0 kcl0) ks999
/-- ColdShodModel.goesBy(IIII)Z -/
def kE1000 : aE := (190, 48, ([kvB 0 7], [], 0, [kvR 102, kvN 0, kvI 0, kvN 2, kvN 3, none], []), ([], none), ([kvB 0 1], [], kvI 1, ([], [])), kvW83)
def kC1000_0 : aC := (([kvB 0 7, kvB 0 4], [], 65, [kvR 102, kvN 0, kvI 0, kvN 2, kvN 3, kvI 1], []), ([], []), (4, [(-1, 1)]))
theorem ks1000 : aseg kS krf kB [kE999] (ksp []) kE1000 [kC1000_0] 30000 (none) = true := asgqw (by decide +kernel)
theorem ks1000_0 : aseg kS krf kB [kE999] (ksp []) kE1000 [kC1000_0] 30000 (some kC1000_0) = true := asgqw (by decide +kernel)
theorem kok1000 : aOK kS krf kB kE1000 := aOK_of (kal1 kok999 kal0) (kcl1 ks1000_0 kcl0) ks1000
/-- ColdShodModel.goesBy(IIII)Z -/
def kE1001 : aE := (190, 49, ([kvB 0 7], [], 0, [kvR 102, kvN 0, kvI 0, kvN 1, kvN 3, none], []), ([], none), ([kvB 0 1], [], kvI 1, ([], [])), kvW84)
def kC1001_0 : aC := (([kvB 0 7, kvB 0 4], [], 65, [kvR 102, kvN 0, kvI 0, kvN 1, kvN 3, kvI 1], []), ([], []), (4, [(-1, 1)]))
theorem ks1001 : aseg kS krf kB [kE1000] (ksp []) kE1001 [kC1001_0] 30000 (none) = true := asgqw (by decide +kernel)
theorem ks1001_0 : aseg kS krf kB [kE1000] (ksp []) kE1001 [kC1001_0] 30000 (some kC1001_0) = true := asgqw (by decide +kernel)
theorem kok1001 : aOK kS krf kB kE1001 := aOK_of (kal1 kok1000 kal0) (kcl1 ks1001_0 kcl0) ks1001
/-- ColdShodModel.goesBy(IIII)Z -/
def kE1002 : aE := (190, 50, ([kvB 0 7], [], 0, [kvR 102, kvN 0, kvI 0, kvN 0, kvN 3, none], []), ([], none), ([kvB 0 1], [], kvI 1, ([], [])), kvW85)
def kC1002_0 : aC := (([kvB 0 7, kvB 0 4], [], 65, [kvR 102, kvN 0, kvI 0, kvN 0, kvN 3, kvI 1], []), ([], []), (4, [(-1, 1)]))
theorem ks1002 : aseg kS krf kB [kE1001] (ksp []) kE1002 [kC1002_0] 30000 (none) = true := asgqw (by decide +kernel)
theorem ks1002_0 : aseg kS krf kB [kE1001] (ksp []) kE1002 [kC1002_0] 30000 (some kC1002_0) = true := asgqw (by decide +kernel)
theorem kok1002 : aOK kS krf kB kE1002 := aOK_of (kal1 kok1001 kal0) (kcl1 ks1002_0 kcl0) ks1002
/-- ColdShodModel.goesBy(IIII)Z -/
def kE1003 : aE := (190, 47, ([kvB 0 7], [], 0, [kvR 102, kvN 0, kvI 0, kvN 2, kvN 2, none], []), ([], none), ([kvB 0 1], [], kvI 1, ([], [])), kvW78)
def kC1003_0 : aC := (([kvB 0 7, kvB 0 2], [], 14, [kvR 102, kvN 0, kvI 0, kvN 2, kvN 2, kvI 1], []), ([], []), (2, [(-1, 1)]))
theorem ks1003 : aseg kS krf kB [kE43, kE94, kE993, kE254] (ksp []) kE1003 [kC1003_0] 30000 (none) = true := asgqw (by decide +kernel)
theorem ks1003_0 : aseg kS krf kB [kE43, kE94, kE993, kE254] (ksp []) kE1003 [kC1003_0] 30000 (some kC1003_0) = true := asgqw (by decide +kernel)
theorem kok1003 : aOK kS krf kB kE1003 := aOK_of (kal1 kok43 (kal1 kok94 (kal1 kok993 (kal1 kok254 kal0)))) (kcl1 ks1003_0 kcl0) ks1003
/-- ColdShodModel.goesBy(IIII)Z -/
def kE1004 : aE := (190, 48, ([kvB 0 7], [], 0, [kvR 102, kvN 0, kvI 0, kvN 1, kvN 2, none], []), ([], none), ([kvB 0 1], [], kvI 1, ([], [])), kvW86)
def kC1004_0 : aC := (([kvB 0 7, kvB 0 4], [], 65, [kvR 102, kvN 0, kvI 0, kvN 1, kvN 2, kvI 1], []), ([], []), (4, [(-1, 1)]))
theorem ks1004 : aseg kS krf kB [kE1003] (ksp []) kE1004 [kC1004_0] 30000 (none) = true := asgqw (by decide +kernel)
theorem ks1004_0 : aseg kS krf kB [kE1003] (ksp []) kE1004 [kC1004_0] 30000 (some kC1004_0) = true := asgqw (by decide +kernel)
theorem kok1004 : aOK kS krf kB kE1004 := aOK_of (kal1 kok1003 kal0) (kcl1 ks1004_0 kcl0) ks1004
/-- ColdShodModel.goesBy(IIII)Z -/
def kE1005 : aE := (190, 49, ([kvB 0 7], [], 0, [kvR 102, kvN 0, kvI 0, kvN 0, kvN 2, none], []), ([], none), ([kvB 0 1], [], kvI 1, ([], [])), kvW87)
def kC1005_0 : aC := (([kvB 0 7, kvB 0 4], [], 65, [kvR 102, kvN 0, kvI 0, kvN 0, kvN 2, kvI 1], []), ([], []), (4, [(-1, 1)]))
theorem ks1005 : aseg kS krf kB [kE1004] (ksp []) kE1005 [kC1005_0] 30000 (none) = true := asgqw (by decide +kernel)
theorem ks1005_0 : aseg kS krf kB [kE1004] (ksp []) kE1005 [kC1005_0] 30000 (some kC1005_0) = true := asgqw (by decide +kernel)
theorem kok1005 : aOK kS krf kB kE1005 := aOK_of (kal1 kok1004 kal0) (kcl1 ks1005_0 kcl0) ks1005
/-- ColdShodModel.goesBy(IIII)Z -/
def kE1006 : aE := (190, 47, ([kvB 0 7], [], 0, [kvR 102, kvN 0, kvI 0, kvN 1, kvN 1, none], []), ([], none), ([kvB 0 1], [], kvI 1, ([], [])), kvW78)
def kC1006_0 : aC := (([kvB 0 7, kvB 0 1], [], 14, [kvR 102, kvN 0, kvI 0, kvN 1, kvN 1, kvI 1], []), ([], []), (1, [(-1, 1)]))
theorem ks1006 : aseg kS krf kB [kE43, kE94, kE993, kE254] (ksp []) kE1006 [kC1006_0] 30000 (none) = true := asgqw (by decide +kernel)
theorem ks1006_0 : aseg kS krf kB [kE43, kE94, kE993, kE254] (ksp []) kE1006 [kC1006_0] 30000 (some kC1006_0) = true := asgqw (by decide +kernel)
theorem kok1006 : aOK kS krf kB kE1006 := aOK_of (kal1 kok43 (kal1 kok94 (kal1 kok993 (kal1 kok254 kal0)))) (kcl1 ks1006_0 kcl0) ks1006
/-- ColdShodModel.goesBy(IIII)Z -/
def kE1007 : aE := (190, 48, ([kvB 0 7], [], 0, [kvR 102, kvN 0, kvI 0, kvN 0, kvN 1, none], []), ([], none), ([kvB 0 1], [], kvI 1, ([], [])), kvW88)
def kC1007_0 : aC := (([kvB 0 7, kvB 0 4], [], 65, [kvR 102, kvN 0, kvI 0, kvN 0, kvN 1, kvI 1], []), ([], []), (4, [(-1, 1)]))
theorem ks1007 : aseg kS krf kB [kE1006] (ksp []) kE1007 [kC1007_0] 30000 (none) = true := asgqw (by decide +kernel)
theorem ks1007_0 : aseg kS krf kB [kE1006] (ksp []) kE1007 [kC1007_0] 30000 (some kC1007_0) = true := asgqw (by decide +kernel)
theorem kok1007 : aOK kS krf kB kE1007 := aOK_of (kal1 kok1006 kal0) (kcl1 ks1007_0 kcl0) ks1007
/-- ColdShodModel.goesBy(IIII)Z -/
def kE1008 : aE := (190, 47, ([kvB 0 7], [], 0, [kvR 102, kvN 0, kvI 0, kvN 0, kvN 0, none], []), ([], none), ([kvB 0 1], [], kvI 1, ([], [])), kvW78)
def kC1008_0 : aC := (([kvB 0 7], [], 14, [kvR 102, kvN 0, kvI 0, kvN 0, kvN 0, kvN 0], []), ([], []), (0, []))
theorem ks1008 : aseg kS krf kB [kE43, kE993, kE254] (ksp []) kE1008 [kC1008_0] 30000 (none) = true := asgqw (by decide +kernel)
theorem ks1008_0 : aseg kS krf kB [kE43, kE993, kE254] (ksp []) kE1008 [kC1008_0] 30000 (some kC1008_0) = true := asgqw (by decide +kernel)
theorem kok1008 : aOK kS krf kB kE1008 := aOK_of (kal1 kok43 (kal1 kok993 (kal1 kok254 kal0))) (kcl1 ks1008_0 kcl0) ks1008
/-- ColdShodModel.strokes(III)I -/
def kE1009 : aE := (191, 52, ([(.negSucc 2147483647, .ofNat 2147483647), (.negSucc 2147483647, .ofNat 2147483647), (.negSucc 2147483647, .ofNat 2147483647)], [], 0, [some (.inr [102]), some (.inl (.inl (.inl (0, .ofNat 0)))), some (.inl (.inl (.inl (1, .ofNat 0)))), some (.inl (.inl (.inl (2, .ofNat 0)))), none], []), ([], none), ([(.negSucc 11, .ofNat 4)], [], some (.inl (.inl (.inl (3, .ofNat 0)))), ([], [])), ([(102, 15), (102, 16), (102, 17), (102, 18), (102, 19), (102, 22), (102, 23), (102, 24), (102, 25), (111, 0), (111, 1), (111, 2), (111, 3), (111, 4), (111, 5), (113, 0), (113, 1), (113, 2), (113, 3)], [112]))
def kC1009_0 : aC := (([kvB 5 5, kvB 0 7, (.negSucc 0, .ofNat 2147483647), kvB 0 5, kvB 1 8], [(124, 5, .inr (.ofNat 50)), (102, 7, .inl (4, .ofNat 0))], 42, [kvR 102, kvI 0, kvI 1, kvI 2, kvI 3], []), ([], []), (5, [(-1, 3)]))
def kC1009_1 : aC := (([kvB 4 4, kvB 0 7, (.negSucc 0, .ofNat 2147483647), kvB 0 5, kvB 1 8], [(124, 4, .inr (.ofNat 50)), (102, 7, .inl (4, .ofNat 0))], 42, [kvR 102, kvI 0, kvI 1, kvI 2, kvI 3], []), ([], []), (5, [(-1, 3)]))
def kC1009_2 : aC := (([kvB 3 3, kvB 0 7, (.negSucc 0, .ofNat 2147483647), kvB 0 5, kvB 1 8], [(124, 3, .inr (.ofNat 50)), (102, 7, .inl (4, .ofNat 0))], 42, [kvR 102, kvI 0, kvI 1, kvI 2, kvI 3], []), ([], []), (5, [(-1, 3)]))
def kC1009_3 : aC := (([kvB 2 2, kvB 0 7, (.negSucc 0, .ofNat 2147483647), kvB 0 5, kvB 1 8], [(124, 2, .inr (.ofNat 50)), (102, 7, .inl (4, .ofNat 0))], 42, [kvR 102, kvI 0, kvI 1, kvI 2, kvI 3], []), ([], []), (5, [(-1, 3)]))
def kC1009_4 : aC := (([kvB 1 1, kvB 0 7, (.negSucc 0, .ofNat 2147483647), kvB 0 5, kvB 1 8], [(124, 1, .inr (.ofNat 50)), (102, 7, .inl (4, .ofNat 0))], 42, [kvR 102, kvI 0, kvI 1, kvI 2, kvI 3], []), ([], []), (5, [(-1, 3)]))
def kC1009_5 : aC := (([kvB 0 0, kvB 0 7, (.negSucc 0, .ofNat 2147483647), kvB 0 5, kvB 1 8], [(124, 0, .inr (.ofNat 50)), (102, 7, .inl (4, .ofNat 0))], 42, [kvR 102, kvI 0, kvI 1, kvI 2, kvI 3], []), ([], []), (5, [(-1, 3)]))
theorem ks1009 : aseg kS krf kB [kE918, kE922, kE925, kE927, kE928, kE934, kE938, kE941, kE943, kE944, kE950, kE954, kE957, kE959, kE960, kE966, kE970, kE973, kE975, kE976, kE982, kE986, kE989, kE991, kE992, kE998, kE1002, kE1005, kE1007, kE1008] (ksp [(191, 0, 1, 0, 5, 0), (191, 42, 4, -1000, 1000, 0)]) kE1009 [kC1009_0, kC1009_1, kC1009_2, kC1009_3, kC1009_4, kC1009_5] 30000 (none) = true := asgqw (by decide +kernel)
theorem ks1009_0 : aseg kS krf kB [kE918, kE922, kE925, kE927, kE928, kE934, kE938, kE941, kE943, kE944, kE950, kE954, kE957, kE959, kE960, kE966, kE970, kE973, kE975, kE976, kE982, kE986, kE989, kE991, kE992, kE998, kE1002, kE1005, kE1007, kE1008] (ksp [(191, 0, 1, 0, 5, 0), (191, 42, 4, -1000, 1000, 0)]) kE1009 [kC1009_0, kC1009_1, kC1009_2, kC1009_3, kC1009_4, kC1009_5] 30000 (some kC1009_0) = true := asgqw (by decide +kernel)
theorem ks1009_1 : aseg kS krf kB [kE918, kE922, kE925, kE927, kE928, kE934, kE938, kE941, kE943, kE944, kE950, kE954, kE957, kE959, kE960, kE966, kE970, kE973, kE975, kE976, kE982, kE986, kE989, kE991, kE992, kE998, kE1002, kE1005, kE1007, kE1008] (ksp [(191, 0, 1, 0, 5, 0), (191, 42, 4, -1000, 1000, 0)]) kE1009 [kC1009_0, kC1009_1, kC1009_2, kC1009_3, kC1009_4, kC1009_5] 30000 (some kC1009_1) = true := asgqw (by decide +kernel)
theorem ks1009_2 : aseg kS krf kB [kE918, kE922, kE925, kE927, kE928, kE934, kE938, kE941, kE943, kE944, kE950, kE954, kE957, kE959, kE960, kE966, kE970, kE973, kE975, kE976, kE982, kE986, kE989, kE991, kE992, kE998, kE1002, kE1005, kE1007, kE1008] (ksp [(191, 0, 1, 0, 5, 0), (191, 42, 4, -1000, 1000, 0)]) kE1009 [kC1009_0, kC1009_1, kC1009_2, kC1009_3, kC1009_4, kC1009_5] 30000 (some kC1009_2) = true := asgqw (by decide +kernel)
theorem ks1009_3 : aseg kS krf kB [kE918, kE922, kE925, kE927, kE928, kE934, kE938, kE941, kE943, kE944, kE950, kE954, kE957, kE959, kE960, kE966, kE970, kE973, kE975, kE976, kE982, kE986, kE989, kE991, kE992, kE998, kE1002, kE1005, kE1007, kE1008] (ksp [(191, 0, 1, 0, 5, 0), (191, 42, 4, -1000, 1000, 0)]) kE1009 [kC1009_0, kC1009_1, kC1009_2, kC1009_3, kC1009_4, kC1009_5] 30000 (some kC1009_3) = true := asgqw (by decide +kernel)
theorem ks1009_4 : aseg kS krf kB [kE918, kE922, kE925, kE927, kE928, kE934, kE938, kE941, kE943, kE944, kE950, kE954, kE957, kE959, kE960, kE966, kE970, kE973, kE975, kE976, kE982, kE986, kE989, kE991, kE992, kE998, kE1002, kE1005, kE1007, kE1008] (ksp [(191, 0, 1, 0, 5, 0), (191, 42, 4, -1000, 1000, 0)]) kE1009 [kC1009_0, kC1009_1, kC1009_2, kC1009_3, kC1009_4, kC1009_5] 30000 (some kC1009_4) = true := asgqw (by decide +kernel)
theorem ks1009_5 : aseg kS krf kB [kE918, kE922, kE925, kE927, kE928, kE934, kE938, kE941, kE943, kE944, kE950, kE954, kE957, kE959, kE960, kE966, kE970, kE973, kE975, kE976, kE982, kE986, kE989, kE991, kE992, kE998, kE1002, kE1005, kE1007, kE1008] (ksp [(191, 0, 1, 0, 5, 0), (191, 42, 4, -1000, 1000, 0)]) kE1009 [kC1009_0, kC1009_1, kC1009_2, kC1009_3, kC1009_4, kC1009_5] 30000 (some kC1009_5) = true := asgqw (by decide +kernel)
theorem kok1009 : aOK kS krf kB kE1009 := aOK_of (kal1 kok918 (kal1 kok922 (kal1 kok925 (kal1 kok927 (kal1 kok928 (kal1 kok934 (kal1 kok938 (kal1 kok941 (kal1 kok943 (kal1 kok944 (kal1 kok950 (kal1 kok954 (kal1 kok957 (kal1 kok959 (kal1 kok960 (kal1 kok966 (kal1 kok970 (kal1 kok973 (kal1 kok975 (kal1 kok976 (kal1 kok982 (kal1 kok986 (kal1 kok989 (kal1 kok991 (kal1 kok992 (kal1 kok998 (kal1 kok1002 (kal1 kok1005 (kal1 kok1007 (kal1 kok1008 kal0)))))))))))))))))))))))))))))) (kcl1 ks1009_0 (kcl1 ks1009_1 (kcl1 ks1009_2 (kcl1 ks1009_3 (kcl1 ks1009_4 (kcl1 ks1009_5 kcl0)))))) ks1009
